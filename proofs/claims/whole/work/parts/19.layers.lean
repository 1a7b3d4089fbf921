/-! LAYERS: the numbers -/
/-- a RULE: its first ATOM, its TERMS, how many; its letters, how many -/
abbrev RV : Type := (Nat → Int32) × (Nat → Nat → Int32) × Nat × (Nat → Int32) × Nat
def rvH (v : RV) : Nat := (v.1 1).toNatClampNeg
def rvK (v : RV) (i : Nat) : Nat := (v.2.1 i 1).toNatClampNeg
def okK (v : RV) : Prop := v.2.2.1 ≤ 4 ∧ (v.1 1 = nI (rvH v) ∧ rvH v < 10) ∧ ∀ i, i < v.2.2.1 → ¬ v.2.1 i 0 = 2 → v.2.1 i 1 = nI (rvK v i) ∧ rvK v i < 10
def lfor (v : RV) (L : Nat → Nat) : Nat → Nat
  | 0 => 0
  | i + 1 => if v.2.1 i 0 = 2 then lfor v L i else max (lfor v L i) (L (rvK v i) + if v.2.1 i 0 = 1 then 1 else 0)
theorem lfor_le {v : RV} {L : Nat → Nat} {B : Nat} : ∀ {n : Nat}, lfor v L n ≤ B ↔ ∀ i, i < n → ¬ v.2.1 i 0 = 2 → L (rvK v i) + (if v.2.1 i 0 = 1 then 1 else 0) ≤ B
  | 0 => ⟨fun _ i hi => absurd hi (by omega), fun _ => Nat.zero_le _⟩
  | n + 1 => by
    have ih := lfor_le (v := v) (L := L) (B := B) (n := n)
    simp only [lfor]
    by_cases h : v.2.1 n 0 = 2
    · rw [if_pos h, ih]
      refine ⟨fun q i hi hne => ?_, fun q i hi => q i (by omega)⟩
      rcases Nat.lt_or_ge i n with e | e
      · exact q i e hne
      · rw [show i = n by omega] at hne
        exact absurd h hne
    · rw [if_neg h]
      have e : max (lfor v L n) (L (rvK v n) + if v.2.1 n 0 = 1 then 1 else 0) ≤ B ↔ lfor v L n ≤ B ∧ (L (rvK v n) + if v.2.1 n 0 = 1 then 1 else 0) ≤ B := by omega
      rw [e, ih]
      refine ⟨fun q i hi hne => ?_, fun q => ⟨fun i hi => q i (by omega), q n (by omega) h⟩⟩
      rcases Nat.lt_or_ge i n with e | e
      · exact q.1 i e hne
      · rw [show i = n by omega]
        exact q.2
theorem lfor_mono {v : RV} {L L' : Nat → Nat} {n : Nat} (hk : ∀ i, i < n → ¬ v.2.1 i 0 = 2 → rvK v i < 10) (h : ∀ k, k < 10 → L k ≤ L' k) : lfor v L n ≤ lfor v L' n := by
  rw [lfor_le]
  intro i hi hne
  have h1 := (lfor_le (v := v) (L := L') (B := lfor v L' n) (n := n)).mp (Nat.le_refl _) i hi hne
  have h2 := h _ (hk i hi hne)
  omega
def Sat (V : Nat → RV) (n : Nat) (S : Nat → Nat) : Prop := ∀ r, r < n → lfor (V r) S (V r).2.2.1 ≤ S (rvH (V r))
theorem ct_strict {p q : Nat → Bool} {n i : Nat} (hi : i < n) (hp : p i = false) (hq : q i = true) (hs : ∀ k, k < n → p k = true → q k = true) : fb_ct p n + 1 ≤ fb_ct q n := by
  have h1 := fb_ct_upd p true hi
  rw [hp, if_neg (by decide), if_pos rfl] at h1
  have h2 : fb_ct (fun k => if k = i then true else p k) n ≤ fb_ct q n := fb_ct_sub (fun k hk h => by
    by_cases e : k = i
    · rw [e]; exact hq
    · rw [if_neg e] at h; exact hs k hk h)
  omega
/-- a solution with small numbers -/
theorem sat_small {V : Nat → RV} {n : Nat} (hV : ∀ r, r < n → okK (V r)) {S : Nat → Nat} (h : Sat V n S) : ∃ S', Sat V n S' ∧ ∀ k, k < 10 → S' k ≤ 9 := by
  refine ⟨fun k => fb_ct (fun j => decide (S j < S k)) 10, fun r hr => ?_, fun k hk => ?_⟩
  · obtain ⟨-, ⟨-, hh⟩, hK⟩ := hV r hr
    rw [lfor_le]
    intro i hi hne
    have h1 := lfor_le.mp (h r hr) i hi hne
    have hk := (hK i hi hne).2
    by_cases e : (V r).2.1 i 0 = 1
    · rw [if_pos e] at h1 ⊢
      exact ct_strict hk (by simp) (by simp; omega) (fun k _ q => by simp at q ⊢; omega)
    · rw [if_neg e] at h1 ⊢
      exact fb_ct_sub (fun k _ q => by simp at q ⊢; omega)
  · have h1 := ct_strict (p := fun j => decide (S j < S k)) (q := fun _ => true) hk (by simp) rfl (fun _ _ _ => rfl)
    have h2 : fb_ct (fun _ => true) 10 ≤ 10 := fb_ct_le _ _
    show fb_ct (fun j => decide (S j < S k)) 10 ≤ 9
    omega
/-- what the layers are so far -/
def lyInv (V : Nat → RV) (n : Nat) (L : Nat → Nat) : Prop := (∀ k, L k ≤ 9) ∧ ∀ S, Sat V n S → (∀ k, k < 10 → S k ≤ 9) → ∀ k, k < 10 → L k ≤ S k
theorem lyInv_up {V : Nat → RV} {n r : Nat} {L : Nat → Nat} (hV : ∀ r, r < n → okK (V r)) (h : lyInv V n L) (hr : r < n) (h9 : lfor (V r) L (V r).2.2.1 ≤ 9) : lyInv V n (fun k => if k = rvH (V r) then lfor (V r) L (V r).2.2.1 else L k) := by
  refine ⟨fun k => ?_, fun S hS hs k hk => ?_⟩
  · show (if k = rvH (V r) then lfor (V r) L (V r).2.2.1 else L k) ≤ 9
    split
    · exact h9
    · exact h.1 k
  · show (if k = rvH (V r) then lfor (V r) L (V r).2.2.1 else L k) ≤ S k
    split
    next e =>
      rw [e]
      exact Nat.le_trans (lfor_mono (fun i hi hne => ((hV r hr).2.2 i hi hne).2) (h.2 S hS hs)) (hS r hr)
    next => exact h.2 S hS hs k hk
theorem lyInv_no {V : Nat → RV} {n r : Nat} {L : Nat → Nat} (hV : ∀ r, r < n → okK (V r)) (h : lyInv V n L) (hr : r < n) (h9 : 10 ≤ lfor (V r) L (V r).2.2.1) : ¬ ∃ S, Sat V n S := by
  rintro ⟨S, hS⟩
  obtain ⟨S', hS', hs⟩ := sat_small hV hS
  have h1 := lfor_mono (fun i hi hne => ((hV r hr).2.2 i hi hne).2) (h.2 S' hS' hs)
  have h2 := hS' r hr
  have h3 := hs _ (hV r hr).2.1.2
  omega
theorem lyInv_least {V : Nat → RV} {n : Nat} {L : Nat → Nat} (hV : ∀ r, r < n → okK (V r)) (h : lyInv V n L) (hs : Sat V n L) : ∀ S, Sat V n S → ∀ k, k < 10 → L k ≤ S k := by
  intro S hS k hk
  -- the lesser of the two is a solution with small numbers
  have h1 : Sat V n (fun k => min (L k) (S k)) := by
    intro r hr
    have hk := fun i hi hne => ((hV r hr).2.2 i hi hne).2
    have a1 := Nat.le_trans (lfor_mono (L := fun k => min (L k) (S k)) (L' := L) hk (fun k _ => Nat.min_le_left _ _)) (hs r hr)
    have a2 := Nat.le_trans (lfor_mono (L := fun k => min (L k) (S k)) (L' := S) hk (fun k _ => Nat.min_le_right _ _)) (hS r hr)
    show _ ≤ min (L (rvH (V r))) (S (rvH (V r)))
    omega
  have h2 := h.2 _ h1 (fun k _ => Nat.le_trans (Nat.min_le_left _ _) (h.1 k)) k hk
  have h3 : L k ≤ min (L k) (S k) := h2
  omega
theorem lfor_b {v : RV} {L : Nat → Nat} (h : ∀ k, L k ≤ 9) (n : Nat) : lfor v L n ≤ 10 := by
  rw [lfor_le]
  intro i hi hne
  have := h (rvK v i)
  split <;> omega
def rlV (h : xHp) (a : Nat) (v : RV) : Prop := rlAt h a v.1 v.2.1 v.2.2.1 v.2.2.2.1 v.2.2.2.2
def rsAt (h : xHp) (rs : Nat) (ra : Nat → Nat) (V : Nat → RV) : Prop := (∃ rf : Nat → Option Nat, h.1 rs = some (.inl (4, 21, .inr (.inr rf))) ∧ ∀ j, j < 21 → rf j = some (ra j)) ∧ ∀ j, j < 21 → rlV h (ra j) (V j)
theorem x_ls {G : xG} {M : xM} {R : Room} {F : List Frame → Array Value → State → State → Prop} {uc us pc : Nat} {ls : List (Nat × Value)} {st : List Value} {h : xHp} (ls' : List (Nat × Value)) (ks : List Nat) (hk : ks.filterMap (fun i => ls[i]?) = ls') (k : Wx G M R F uc us pc ls' st h) : Wx G M R F uc us pc ls st h := by
  intro p e s m args below meth c H locs lsA hC hR hL hl
  refine k p e s m args below meth c H locs lsA hC hR hL ⟨hl.1, hl.2.1, fun q hq => hl.2.2 q ?_⟩
  obtain ⟨q0, hq0, rfl⟩ := List.mem_map.mp hq
  subst hk
  obtain ⟨i, -, hi⟩ := List.mem_filterMap.mp hq0
  exact List.mem_map.mpr ⟨q0, List.mem_of_getElem? hi, rfl⟩
set_option maxRecDepth 100000 in
set_option maxHeartbeats 4000000 in
theorem l_X4_leastFor {G : xG} {h : xHp} {l ofs a : Nat} {lf : Nat → Int32} {L : Nat → Nat} {v : RV} (hl : h.1 l = some (.inr (4, [.ref ofs]))) (ho : h.1 ofs = some (.inl (0, 10, .inl lf))) (hr : rlV h a v) (hv : okK v) (hL : ∀ k, k < 10 → lf k = nI (L k)) (hB : ∀ k, L k ≤ 9) : ∀ (k i : Nat), i ≤ v.2.2.1 → v.2.2.1 + 1 ≤ i + k → Wx G mX4_leastFor (xRm 1 0 0) (xF G (xAns (.int (nI (lfor v L v.2.2.1))) h) 0 0) 0 0 4 [(0, .ref l), (1, .ref a), (2, .int (nI (lfor v L i))), (3, .int (nI i))] [] h := by
  intro k
  induction k with
  | zero => exact fun i h1 h2 => absurd h2 (by omega)
  | succ k ih =>
    intro i hk hk9
    have hs4 := hv.1
    refine x_iload_n dX4_leastFor_4 rfl ?_
    refine x_aload_n dX4_leastFor_5 rfl ?_
    refine x_get lf_X4_37 dX4_leastFor_6 hr.1 rfl ?_
    refine x_icmp_ge 69 dX4_leastFor_9 (by decide) (fun c_9 => ?_) (fun c_9 => ?_)
    · rw [nI_leI (by omega) (by omega)] at c_9
      refine x_iload_n dX4_leastFor_69 rfl ?_
      exact x_iret dX4_leastFor_70 rfl rfl (Nat.le_refl _) (Nat.le_refl _) ⟨by rw [show i = v.2.2.1 by omega], rfl⟩
    · rw [nI_leI (by omega) (by omega)] at c_9
      have hs4 := hv.1
      have hb1 := lfor_b (v := v) hB i
      refine x_aload_n dX4_leastFor_12 rfl ?_
      refine x_get lf_X4_40 dX4_leastFor_13 hr.1 rfl ?_
      refine x_iload_n dX4_leastFor_16 rfl ?_
      refine x_aaldN (b := a + 4 + i) (j := i) hr.2.2.1 rfl rfl (by omega) (by decide) (rTs_at (by omega)) dX4_leastFor_17 ?_
      refine x_astore [(0, .ref l), (1, .ref a), (2, .int (nI (lfor v L i))), (3, .int (nI i)), (4, .ref (a + 4 + i))] dX4_leastFor_18 (by decide) rfl rfl ?_
      refine x_aload dX4_leastFor_20 rfl ?_
      refine x_get lf_X4_44 dX4_leastFor_22 (hr.2.2.2.2 i (by omega)) rfl ?_
      refine x_iconst (v := 2) dX4_leastFor_25 (by decide) ?_
      refine x_icmp_eq 63 dX4_leastFor_26 (by decide) (fun c_26 => ?_) (fun c_26 => ?_)
      · refine x_iinc (v := nI (i + 1)) [(0, .ref l), (1, .ref a), (2, .int (nI (lfor v L i))), (3, .int (nI (i + 1))), (4, .ref (a + 4 + i))] dX4_leastFor_63 rfl (nI_add i 1) (by decide) rfl rfl ?_
        refine x_goto 4 dX4_leastFor_66 (by decide) ?_
        rw [← (show lfor v L (i + 1) = lfor v L i by simp only [lfor]; rw [if_pos c_26])]
        exact x_ls _ [0, 1, 2, 3] rfl (ih (i + 1) (by omega) (by omega))
      · refine x_aload dX4_leastFor_29 rfl ?_
        refine x_get lf_X4_44 dX4_leastFor_31 (hr.2.2.2.2 i (by omega)) rfl ?_
        refine x_iconst (v := 1) dX4_leastFor_34 (by decide) ?_
        refine x_icmp_ne 42 dX4_leastFor_35 (by decide) (fun c_35 => ?_) (fun c_35 => ?_)
        · refine x_iconst (v := 0) dX4_leastFor_42 (by decide) ?_
          refine x_istore [(0, .ref l), (1, .ref a), (2, .int (nI (lfor v L i))), (3, .int (nI i)), (4, .ref (a + 4 + i)), (5, .int 0)] dX4_leastFor_43 (by decide) rfl rfl ?_
          obtain ⟨hk1, hk2⟩ := hv.2.2 i (by omega) c_26
          have hb2 := hB (rvK v i)
          refine x_iload_n dX4_leastFor_45 rfl ?_
          refine x_aload_n dX4_leastFor_46 rfl ?_
          refine x_get lf_X4_9 dX4_leastFor_47 hl rfl ?_
          refine x_aload dX4_leastFor_50 rfl ?_
          refine x_get lf_X4_31 dX4_leastFor_52 (hr.2.2.2.2 i (by omega)) rfl ?_
          refine x_top hk1 ?_
          refine x_ialdN (j := rvK v i) ho rfl (by omega) (by decide) dX4_leastFor_55 ?_
          refine x_top (hL _ hk2) ?_
          refine x_iload dX4_leastFor_56 rfl ?_
          refine x_iadd dX4_leastFor_58 ?_
          refine x_top (y := nI ((L (rvK v i)) + 0)) (nI_add (L (rvK v i)) 0) ?_
          refine x_max ml_X4_47 mx_s in_Math mx_c dX4_leastFor_59 (Nat.le_of_ble_eq_true rfl) (Nat.le_of_ble_eq_true rfl) ⟨Nat.le_of_ble_eq_true rfl, Nat.le_of_ble_eq_true rfl⟩ ?_
          refine x_top (show _ = nI (lfor v L (i + 1)) by simp only [lfor]; rw [if_neg c_26, (if_neg c_35)]; exact nI_max (by omega) (by omega)) ?_
          refine x_istore_n [(0, .ref l), (1, .ref a), (2, .int (nI (lfor v L (i + 1)))), (3, .int (nI i)), (4, .ref (a + 4 + i)), (5, .int 0)] dX4_leastFor_62 (by decide) rfl rfl ?_
          refine x_iinc (v := nI (i + 1)) [(0, .ref l), (1, .ref a), (2, .int (nI (lfor v L (i + 1)))), (3, .int (nI (i + 1))), (4, .ref (a + 4 + i)), (5, .int 0)] dX4_leastFor_63 rfl (nI_add i 1) (by decide) rfl rfl ?_
          refine x_goto 4 dX4_leastFor_66 (by decide) ?_
          exact x_ls _ [0, 1, 2, 3] rfl (ih (i + 1) (by omega) (by omega))
        · refine x_iconst (v := 1) dX4_leastFor_38 (by decide) ?_
          refine x_goto 43 dX4_leastFor_39 (by decide) ?_
          refine x_istore [(0, .ref l), (1, .ref a), (2, .int (nI (lfor v L i))), (3, .int (nI i)), (4, .ref (a + 4 + i)), (5, .int 1)] dX4_leastFor_43 (by decide) rfl rfl ?_
          obtain ⟨hk1, hk2⟩ := hv.2.2 i (by omega) c_26
          have hb2 := hB (rvK v i)
          refine x_iload_n dX4_leastFor_45 rfl ?_
          refine x_aload_n dX4_leastFor_46 rfl ?_
          refine x_get lf_X4_9 dX4_leastFor_47 hl rfl ?_
          refine x_aload dX4_leastFor_50 rfl ?_
          refine x_get lf_X4_31 dX4_leastFor_52 (hr.2.2.2.2 i (by omega)) rfl ?_
          refine x_top hk1 ?_
          refine x_ialdN (j := rvK v i) ho rfl (by omega) (by decide) dX4_leastFor_55 ?_
          refine x_top (hL _ hk2) ?_
          refine x_iload dX4_leastFor_56 rfl ?_
          refine x_iadd dX4_leastFor_58 ?_
          refine x_top (y := nI ((L (rvK v i)) + 1)) (nI_add (L (rvK v i)) 1) ?_
          refine x_max ml_X4_47 mx_s in_Math mx_c dX4_leastFor_59 (Nat.le_of_ble_eq_true rfl) (Nat.le_of_ble_eq_true rfl) ⟨Nat.le_of_ble_eq_true rfl, Nat.le_of_ble_eq_true rfl⟩ ?_
          refine x_top (show _ = nI (lfor v L (i + 1)) by simp only [lfor]; rw [if_neg c_26, (if_pos c_35)]; exact nI_max (by omega) (by omega)) ?_
          refine x_istore_n [(0, .ref l), (1, .ref a), (2, .int (nI (lfor v L (i + 1)))), (3, .int (nI i)), (4, .ref (a + 4 + i)), (5, .int 1)] dX4_leastFor_62 (by decide) rfl rfl ?_
          refine x_iinc (v := nI (i + 1)) [(0, .ref l), (1, .ref a), (2, .int (nI (lfor v L (i + 1)))), (3, .int (nI (i + 1))), (4, .ref (a + 4 + i)), (5, .int 1)] dX4_leastFor_63 rfl (nI_add i 1) (by decide) rfl rfl ?_
          refine x_goto 4 dX4_leastFor_66 (by decide) ?_
          exact x_ls _ [0, 1, 2, 3] rfl (ih (i + 1) (by omega) (by omega))
set_option maxRecDepth 100000 in
set_option maxHeartbeats 4000000 in
theorem k_X4_leastFor {G : xG} {h : xHp} {l ofs a : Nat} {lf : Nat → Int32} {L : Nat → Nat} {v : RV} (hl : h.1 l = some (.inr (4, [.ref ofs]))) (ho : h.1 ofs = some (.inl (0, 10, .inl lf))) (hr : rlV h a v) (hv : okK v) (hL : ∀ k, k < 10 → lf k = nI (L k)) (hB : ∀ k, L k ≤ 9) : MX G mX4_leastFor 1 0 0 [.ref l, .ref a] h (xAns (.int (nI (lfor v L v.2.2.1))) h) := by
  refine MX.of [(0, .ref l), (1, .ref a)] (by decide) rfl (Nat.le_of_ble_eq_true rfl) rfl ?_
  refine x_iconst (v := 0) dX4_leastFor_0 (by decide) ?_
  refine x_istore_n [(0, .ref l), (1, .ref a), (2, .int 0)] dX4_leastFor_1 (by decide) rfl rfl ?_
  refine x_iconst (v := 0) dX4_leastFor_2 (by decide) ?_
  refine x_istore_n [(0, .ref l), (1, .ref a), (2, .int 0), (3, .int 0)] dX4_leastFor_3 (by decide) rfl rfl ?_
  exact l_X4_leastFor hl ho hr hv hL hB (v.2.2.1 + 1) 0 (by omega) (by omega)
