/-! Cutter: candidates and picks -/
def lexS (K : Nat) (τ τ' : Nat → Nat) : Prop := ∃ s, s < K ∧ (∀ r, r < s → τ r = τ' r) ∧ τ s < τ' s
def vP (m N : Nat) (P : Nat → Nat) : Prop := (∀ i, i < m → P i < N) ∧ ∀ i j, i < j → j < m → P i < P j
theorem lexS_1 {a b : Nat → Nat} : lexS 1 a b ↔ a 0 < b 0 := by
  constructor
  · rintro ⟨s, h1, h2, h3⟩; rw [show s = 0 by omega] at h3; exact h3
  · intro h; exact ⟨0, by omega, fun r hr => absurd hr (by omega), h⟩
theorem lexS_s {K : Nat} {a b : Nat → Nat} : lexS (K + 1) a b ↔ a 0 < b 0 ∨ (a 0 = b 0 ∧ lexS K (fun i => a (i + 1)) (fun i => b (i + 1))) := by
  constructor
  · rintro ⟨s, h1, h2, h3⟩
    cases s with
    | zero => exact Or.inl h3
    | succ s => exact Or.inr ⟨h2 0 (by omega), s, by omega, fun r hr => h2 (r + 1) (by omega), h3⟩
  · rintro (h | ⟨h, s, h1, h2, h3⟩)
    · exact ⟨0, by omega, fun r hr => absurd hr (by omega), h⟩
    · refine ⟨s + 1, by omega, fun r hr => ?_, h3⟩
      cases r with
      | zero => exact h
      | succ r => exact h2 r (by omega)
theorem lexS_2 {a b : Nat → Nat} : lexS 2 a b ↔ a 0 < b 0 ∨ (a 0 = b 0 ∧ a 1 < b 1) := by rw [lexS_s, lexS_1]
theorem lexS_3 {a b : Nat → Nat} : lexS 3 a b ↔ a 0 < b 0 ∨ (a 0 = b 0 ∧ (a 1 < b 1 ∨ (a 1 = b 1 ∧ a 2 < b 2))) := by rw [lexS_s, lexS_2]
theorem lexL_S {K : Nat} {a b : Nat → Nat} : lexL K a b ↔ (∀ s, s < K → a s = b s) ∨ lexS K a b := Iff.rfl
def c2 (n : Nat) : Nat := n * (n - 1) / 2
def c3 (n : Nat) : Nat := n * (n - 1) * (n - 2) / 6
theorem c2_s : ∀ n, n < 13 → c2 (n + 1) = c2 n + n := by decide
theorem c3_s : ∀ n, n < 13 → c3 (n + 1) = c3 n + c2 n := by decide
/-- how many rows of picks there are from this one on -/
def rem9 (m N : Nat) (P : Nat → Nat) : Nat := if m = 1 then N - P 0 else if m = 2 then N - P 1 + c2 (N - 1 - P 0) else N - P 2 + c2 (N - 1 - P 1) + c3 (N - 1 - P 0)
/-- the next row of picks, or none -/
def nxQ (m N : Nat) (P : Nat → Nat) (b : Bool) (P' : Nat → Nat) : Prop := (b = true → vP m N P' ∧ rem9 m N P' + 1 ≤ rem9 m N P ∧ ∀ Q, vP m N Q → lexS m Q P' → lexL m Q P) ∧ (b = false → ∀ Q, vP m N Q → ¬ lexS m P Q)
theorem rem9_pos {m N : Nat} {P : Nat → Nat} (hm : 1 ≤ m) (hm3 : m ≤ 3) (h : vP m N P) : 1 ≤ rem9 m N P := by
  unfold rem9
  rcases (by omega : m = 1 ∨ m = 2 ∨ m = 3) with rfl | rfl | rfl
  · have := h.1 0 (by omega); rw [if_pos rfl]; omega
  · have := h.1 1 (by omega); rw [if_neg (by omega), if_pos rfl]; omega
  · have := h.1 2 (by omega); rw [if_neg (by omega), if_neg (by omega)]; omega
theorem rem9_0 {m N : Nat} (hm : 1 ≤ m) (hm3 : m ≤ 3) (hN : N ≤ 12) : rem9 m N (fun i => i) ≤ 220 := by
  have : ∀ m, m < 4 → ∀ N, N < 13 → rem9 m N (fun i => i) ≤ 220 := by decide +kernel
  exact this m (by omega) N (by omega)
theorem nx_1n {N : Nat} {P P' : Nat → Nat} (h : N ≤ P 0 + 1) : nxQ 1 N P false P' := by
  refine ⟨fun q => (by cases q), fun _ Q hQ q => ?_⟩
  rw [lexS_1] at q
  have := hQ.1 0 (by omega)
  omega
theorem nx_1y {N : Nat} {P P' : Nat → Nat} (h : vP 1 N P) (h0 : P' 0 = P 0 + 1) (z : P 0 + 1 < N) : nxQ 1 N P true P' := by
  refine ⟨fun _ => ⟨⟨fun i hi => by rw [show i = 0 by omega, h0]; exact z, fun i j a b => absurd a (by omega)⟩, ?_, fun Q hQ q => ?_⟩, fun q => by cases q⟩
  · simp only [rem9, if_pos]; omega
  · rw [lexS_1, h0] at q
    rcases Nat.lt_or_ge (Q 0) (P 0) with e | e
    · exact Or.inr (lexS_1.mpr e)
    · exact Or.inl (fun s hs => by rw [show s = 0 by omega]; omega)
theorem vP_2 {N : Nat} {P : Nat → Nat} : vP 2 N P ↔ P 0 < P 1 ∧ P 1 < N := by
  constructor
  · intro h; exact ⟨h.2 0 1 (by omega) (by omega), h.1 1 (by omega)⟩
  · intro h
    refine ⟨fun i hi => ?_, fun i j a b => ?_⟩
    · rcases (by omega : i = 0 ∨ i = 1) with rfl | rfl <;> omega
    · rw [show i = 0 by omega, show j = 1 by omega]; exact h.1
theorem vP_3 {N : Nat} {P : Nat → Nat} : vP 3 N P ↔ P 0 < P 1 ∧ P 1 < P 2 ∧ P 2 < N := by
  constructor
  · intro h; exact ⟨h.2 0 1 (by omega) (by omega), h.2 1 2 (by omega) (by omega), h.1 2 (by omega)⟩
  · intro h
    refine ⟨fun i hi => ?_, fun i j a b => ?_⟩
    · rcases (by omega : i = 0 ∨ i = 1 ∨ i = 2) with rfl | rfl | rfl <;> omega
    · rcases (by omega : (i = 0 ∧ j = 1) ∨ (i = 0 ∧ j = 2) ∨ (i = 1 ∧ j = 2)) with ⟨rfl, rfl⟩ | ⟨rfl, rfl⟩ | ⟨rfl, rfl⟩ <;> omega
theorem eq_2 {a b : Nat → Nat} (h0 : a 0 = b 0) (h1 : a 1 = b 1) : ∀ s, s < 2 → a s = b s := fun s hs => by
  rcases (by omega : s = 0 ∨ s = 1) with rfl | rfl <;> assumption
theorem eq_3 {a b : Nat → Nat} (h0 : a 0 = b 0) (h1 : a 1 = b 1) (h2 : a 2 = b 2) : ∀ s, s < 3 → a s = b s := fun s hs => by
  rcases (by omega : s = 0 ∨ s = 1 ∨ s = 2) with rfl | rfl | rfl <;> assumption
theorem all_1 {p : Nat → Prop} (h0 : p 0) : ∀ i, i < 1 → p i := fun i hi => by rw [show i = 0 by omega]; exact h0
theorem all_2 {p : Nat → Prop} (h0 : p 0) (h1 : p 1) : ∀ i, i < 2 → p i := fun i hi => by
  rcases (by omega : i = 0 ∨ i = 1) with rfl | rfl <;> assumption
theorem all_3 {p : Nat → Prop} (h0 : p 0) (h1 : p 1) (h2 : p 2) : ∀ i, i < 3 → p i := fun i hi => by
  rcases (by omega : i = 0 ∨ i = 1 ∨ i = 2) with rfl | rfl | rfl <;> assumption
theorem nx_2 {N : Nat} {P P' : Nat → Nat} (hN : N ≤ 12) (h : vP 2 N P) (z : (P 1 + 1 < N ∧ P' 0 = P 0 ∧ P' 1 = P 1 + 1) ∨ (P 1 + 1 = N ∧ P 0 + 2 < N ∧ P' 0 = P 0 + 1 ∧ P' 1 = P 0 + 1 + 1)) : nxQ 2 N P true P' := by
  rw [vP_2] at h
  refine ⟨fun _ => ⟨vP_2.mpr (by omega), ?_, fun Q hQ q => ?_⟩, fun q => by cases q⟩
  · show N - P' 1 + c2 (N - 1 - P' 0) + 1 ≤ N - P 1 + c2 (N - 1 - P 0)
    rcases z with ⟨z1, z2, z3⟩ | ⟨z1, z2, z3, z4⟩
    · rw [z2, z3]; omega
    · rw [z3, z4]
      obtain ⟨a, ha⟩ : ∃ a, N = P 0 + 2 + a := ⟨N - P 0 - 2, by omega⟩
      have := c2_s a (by omega)
      rw [show N - 1 - P 0 = a + 1 by omega, show N - 1 - (P 0 + 1) = a by omega]; omega
  · rw [vP_2] at hQ
    rw [lexS_2] at q
    rw [lexL_S, lexS_2]
    by_cases e : Q 0 = P 0 ∧ Q 1 = P 1
    · exact Or.inl (eq_2 e.1 e.2)
    · exact Or.inr (by omega)
theorem nx_2n {N : Nat} {P P' : Nat → Nat} (z : P 1 + 1 = N) (z2 : N ≤ P 0 + 2) : nxQ 2 N P false P' := by
  refine ⟨fun q => (by cases q), fun _ Q hQ q => ?_⟩
  rw [lexS_2] at q; rw [vP_2] at hQ; omega
theorem nx_3 {N : Nat} {P P' : Nat → Nat} (hN : N ≤ 12) (h : vP 3 N P) (z : (P 2 + 1 < N ∧ P' 0 = P 0 ∧ P' 1 = P 1 ∧ P' 2 = P 2 + 1) ∨ (P 2 + 1 = N ∧ P 1 + 2 < N ∧ P' 0 = P 0 ∧ P' 1 = P 1 + 1 ∧ P' 2 = P 1 + 1 + 1) ∨ (P 2 + 1 = N ∧ P 1 + 2 = N ∧ P 0 + 3 < N ∧ P' 0 = P 0 + 1 ∧ P' 1 = P 0 + 1 + 1 ∧ P' 2 = P 0 + 1 + 1 + 1)) : nxQ 3 N P true P' := by
  rw [vP_3] at h
  refine ⟨fun _ => ⟨vP_3.mpr (by omega), ?_, fun Q hQ q => ?_⟩, fun q => by cases q⟩
  · show N - P' 2 + c2 (N - 1 - P' 1) + c3 (N - 1 - P' 0) + 1 ≤ N - P 2 + c2 (N - 1 - P 1) + c3 (N - 1 - P 0)
    rcases z with ⟨z1, z2, z3, z4⟩ | ⟨z1, z2, z3, z4, z5⟩ | ⟨z1, z2, z3, z4, z5, z6⟩
    · rw [z2, z3, z4]; omega
    · rw [z3, z4, z5]
      obtain ⟨a, ha⟩ : ∃ a, N = P 1 + 2 + a := ⟨N - P 1 - 2, by omega⟩
      have := c2_s a (by omega)
      rw [show N - 1 - P 1 = a + 1 by omega, show N - 1 - (P 1 + 1) = a by omega]; omega
    · rw [z4, z5, z6]
      obtain ⟨a, ha⟩ : ∃ a, N = P 0 + 3 + a := ⟨N - P 0 - 3, by omega⟩
      have h1 := c2_s a (by omega)
      have h2 := c3_s (a + 1) (by omega)
      have h3 : c2 1 = 0 := rfl
      rw [show N - 1 - P 0 = a + 1 + 1 by omega, show N - 1 - (P 0 + 1) = a + 1 by omega, show N - 1 - (P 0 + 1 + 1) = a by omega, show N - 1 - P 1 = 1 by omega]; omega
  · rw [vP_3] at hQ
    rw [lexS_3] at q
    rw [lexL_S, lexS_3]
    by_cases e : Q 0 = P 0 ∧ Q 1 = P 1 ∧ Q 2 = P 2
    · exact Or.inl (eq_3 e.1 e.2.1 e.2.2)
    · exact Or.inr (by omega)
theorem nx_3n {N : Nat} {P P' : Nat → Nat} (z : P 2 + 1 = N) (z2 : P 1 + 2 = N) (z3 : N ≤ P 0 + 3) : nxQ 3 N P false P' := by
  refine ⟨fun q => (by cases q), fun _ Q hQ q => ?_⟩
  rw [lexS_3] at q; rw [vP_3] at hQ; omega
set_option maxRecDepth 100000 in
set_option maxHeartbeats 4000000 in
theorem k_nextPicks_1 {G : xG} {h : xHp} {gl kb : Int32} {N cn : Nat} {pk : Nat → Int32} {P : Nat → Nat} (hc : h.1 200 = some (.inr (1, [.ref 3, .ref 190, .ref 196, .int gl, .int kb, .ref 201, .int (nI N), .ref 202, .ref 203, .int (nI cn)]))) (hp : h.1 202 = some (.inl (0, 3, .inl pk))) (hpk : ∀ i, i < 1 → pk i = nI (P i)) (hN : N ≤ 12) (hv : vP 1 N P) : MX G mX1_nextPicks 1 0 0 [.ref 200, .int 1] h (fun o h' => ∃ (b : Bool) (P' : Nat → Nat) (pk' : Nat → Int32), o = .inl (some (.int (bi b))) ∧ h' = xup h 202 (.inl (0, 3, .inl pk')) ∧ (b = true → ∀ i, i < 1 → pk' i = nI (P' i)) ∧ nxQ 1 N P b P') := by
  have z8 := hv.1 0 (by omega)
  refine MX.of [(0, .ref 200), (1, .int 1)] (by decide) rfl (Nat.le_of_ble_eq_true rfl) rfl ?_
  refine x_iload_n dX1_nextPicks_0 rfl ?_
  refine x_iconst (v := 1) dX1_nextPicks_1 (by decide) ?_
  refine x_isub dX1_nextPicks_2 ?_
  refine x_top (y := 0) (by decide) ?_
  refine x_istore_n [(0, .ref 200), (1, .int 1), (2, .int 0)] dX1_nextPicks_3 (by decide) rfl rfl ?_
  refine x_iload_n dX1_nextPicks_4 rfl ?_
  refine x_if_lt 74 dX1_nextPicks_5 (by decide) (fun c => absurd c (by decide)) (fun _ => ?_)
  refine x_aload_n dX1_nextPicks_8 rfl ?_
  refine x_get lf_X1_15 dX1_nextPicks_9 hc rfl ?_
  refine x_iload_n dX1_nextPicks_12 rfl ?_
  refine x_ialdN (j := 0) hp rfl (by decide) (by decide) dX1_nextPicks_13 ?_
  refine x_top (hpk 0 (by omega)) ?_
  refine x_aload_n dX1_nextPicks_14 rfl ?_
  refine x_get lf_X1_46 dX1_nextPicks_15 hc rfl ?_
  refine x_iload_n dX1_nextPicks_18 rfl ?_
  refine x_isub dX1_nextPicks_19 ?_
  refine x_top (y := nI (N - 1)) (pk_sub (a := N) (b := 1) (by omega)) ?_
  refine x_iload_n dX1_nextPicks_20 rfl ?_
  refine x_iadd dX1_nextPicks_21 ?_
  refine x_top (y := nI ((N - 1) + 0)) (nI_add (N - 1) 0) ?_
  refine x_icmp_ge 68 dX1_nextPicks_22 (by decide) (fun c_22 => ?_) (fun c_22 => ?_)
  · rw [nI_leI (by omega) (by omega)] at c_22
    refine x_iinc (v := (-1)) [(0, .ref 200), (1, .int 1), (2, .int (-1))] dX1_nextPicks_68 rfl (by decide) (by decide) rfl rfl ?_
    refine x_goto 4 dX1_nextPicks_71 (by decide) ?_
    refine x_iload_n dX1_nextPicks_4 rfl ?_
    refine x_if_lt 74 dX1_nextPicks_5 (by decide) (fun _ => ?_) (fun c => absurd c (by decide))
    refine x_iconst (v := 0) dX1_nextPicks_74 (by decide) ?_
    have z0 := hv.1 0 (by omega)
    exact x_iret dX1_nextPicks_75 rfl rfl (Nat.le_refl _) (Nat.le_refl _) ⟨false, P, pk, rfl, (xup_id hp).symm, fun q => (by cases q), nx_1n (by omega)⟩
  · rw [nI_leI (by omega) (by omega)] at c_22
    refine x_aload_n dX1_nextPicks_25 rfl ?_
    refine x_get lf_X1_15 dX1_nextPicks_26 hc rfl ?_
    refine x_iload_n dX1_nextPicks_29 rfl ?_
    refine x_dup2 dX1_nextPicks_30 rfl rfl ?_
    refine x_ialdN (j := 0) hp rfl (by decide) (by decide) dX1_nextPicks_31 ?_
    refine x_top (hpk 0 (by omega)) ?_
    refine x_iconst (v := 1) dX1_nextPicks_32 (by decide) ?_
    refine x_iadd dX1_nextPicks_33 ?_
    refine x_top (y := nI ((P 0) + 1)) (nI_add (P 0) 1) ?_
    refine x_iastN (j := 0) hp rfl (by decide) (by decide) dX1_nextPicks_34 ?_
    refine x_iload_n dX1_nextPicks_35 rfl ?_
    refine x_iconst (v := 1) dX1_nextPicks_36 (by decide) ?_
    refine x_iadd dX1_nextPicks_37 ?_
    refine x_top (y := 1) (by decide) ?_
    refine x_istore_n [(0, .ref 200), (1, .int 1), (2, .int 0), (3, .int 1)] dX1_nextPicks_38 (by decide) rfl rfl ?_
    refine x_iload_n dX1_nextPicks_39 rfl ?_
    refine x_iload_n dX1_nextPicks_40 rfl ?_
    refine x_icmp_ge 66 dX1_nextPicks_41 (by decide) (fun _ => ?_) (fun c => absurd c (by decide))
    refine x_iconst (v := 1) dX1_nextPicks_66 (by decide) ?_
    have z0 := hv.1 0 (by omega)
    refine x_iret dX1_nextPicks_67 rfl rfl (Nat.le_refl _) (Nat.le_refl _) ⟨true, (fun i => if i = 0 then (P 0) + 1 else 0), upd pk 0 (nI ((P 0) + 1)), rfl, rfl, ?_, ?_⟩
    · exact fun _ => all_1 (p := fun i => (upd pk 0 (nI ((P 0) + 1))) i = nI ((fun i => if i = 0 then (P 0) + 1 else 0) i)) rfl
    · exact nx_1y hv rfl (by omega)
set_option maxRecDepth 100000 in
set_option maxHeartbeats 4000000 in
theorem k_nextPicks_2 {G : xG} {h : xHp} {gl kb : Int32} {N cn : Nat} {pk : Nat → Int32} {P : Nat → Nat} (hc : h.1 200 = some (.inr (1, [.ref 3, .ref 190, .ref 196, .int gl, .int kb, .ref 201, .int (nI N), .ref 202, .ref 203, .int (nI cn)]))) (hp : h.1 202 = some (.inl (0, 3, .inl pk))) (hpk : ∀ i, i < 2 → pk i = nI (P i)) (hN : N ≤ 12) (hv : vP 2 N P) : MX G mX1_nextPicks 1 0 0 [.ref 200, .int 2] h (fun o h' => ∃ (b : Bool) (P' : Nat → Nat) (pk' : Nat → Int32), o = .inl (some (.int (bi b))) ∧ h' = xup h 202 (.inl (0, 3, .inl pk')) ∧ (b = true → ∀ i, i < 2 → pk' i = nI (P' i)) ∧ nxQ 2 N P b P') := by
  have z8 := vP_2.mp hv
  refine MX.of [(0, .ref 200), (1, .int 2)] (by decide) rfl (Nat.le_of_ble_eq_true rfl) rfl ?_
  refine x_iload_n dX1_nextPicks_0 rfl ?_
  refine x_iconst (v := 1) dX1_nextPicks_1 (by decide) ?_
  refine x_isub dX1_nextPicks_2 ?_
  refine x_top (y := 1) (by decide) ?_
  refine x_istore_n [(0, .ref 200), (1, .int 2), (2, .int 1)] dX1_nextPicks_3 (by decide) rfl rfl ?_
  refine x_iload_n dX1_nextPicks_4 rfl ?_
  refine x_if_lt 74 dX1_nextPicks_5 (by decide) (fun c => absurd c (by decide)) (fun _ => ?_)
  refine x_aload_n dX1_nextPicks_8 rfl ?_
  refine x_get lf_X1_15 dX1_nextPicks_9 hc rfl ?_
  refine x_iload_n dX1_nextPicks_12 rfl ?_
  refine x_ialdN (j := 1) hp rfl (by decide) (by decide) dX1_nextPicks_13 ?_
  refine x_top (hpk 1 (by omega)) ?_
  refine x_aload_n dX1_nextPicks_14 rfl ?_
  refine x_get lf_X1_46 dX1_nextPicks_15 hc rfl ?_
  refine x_iload_n dX1_nextPicks_18 rfl ?_
  refine x_isub dX1_nextPicks_19 ?_
  refine x_top (y := nI (N - 2)) (pk_sub (a := N) (b := 2) (by omega)) ?_
  refine x_iload_n dX1_nextPicks_20 rfl ?_
  refine x_iadd dX1_nextPicks_21 ?_
  refine x_top (y := nI ((N - 2) + 1)) (nI_add (N - 2) 1) ?_
  refine x_icmp_ge 68 dX1_nextPicks_22 (by decide) (fun c_22 => ?_) (fun c_22 => ?_)
  · rw [nI_leI (by omega) (by omega)] at c_22
    refine x_iinc (v := 0) [(0, .ref 200), (1, .int 2), (2, .int 0)] dX1_nextPicks_68 rfl (by decide) (by decide) rfl rfl ?_
    refine x_goto 4 dX1_nextPicks_71 (by decide) ?_
    refine x_iload_n dX1_nextPicks_4 rfl ?_
    refine x_if_lt 74 dX1_nextPicks_5 (by decide) (fun c => absurd c (by decide)) (fun _ => ?_)
    refine x_aload_n dX1_nextPicks_8 rfl ?_
    refine x_get lf_X1_15 dX1_nextPicks_9 hc rfl ?_
    refine x_iload_n dX1_nextPicks_12 rfl ?_
    refine x_ialdN (j := 0) hp rfl (by decide) (by decide) dX1_nextPicks_13 ?_
    refine x_top (hpk 0 (by omega)) ?_
    refine x_aload_n dX1_nextPicks_14 rfl ?_
    refine x_get lf_X1_46 dX1_nextPicks_15 hc rfl ?_
    refine x_iload_n dX1_nextPicks_18 rfl ?_
    refine x_isub dX1_nextPicks_19 ?_
    refine x_top (y := nI (N - 2)) (pk_sub (a := N) (b := 2) (by omega)) ?_
    refine x_iload_n dX1_nextPicks_20 rfl ?_
    refine x_iadd dX1_nextPicks_21 ?_
    refine x_top (y := nI ((N - 2) + 0)) (nI_add (N - 2) 0) ?_
    refine x_icmp_ge 68 dX1_nextPicks_22 (by decide) (fun c_22 => ?_) (fun c_22 => ?_)
    · rw [nI_leI (by omega) (by omega)] at c_22
      refine x_iinc (v := (-1)) [(0, .ref 200), (1, .int 2), (2, .int (-1))] dX1_nextPicks_68 rfl (by decide) (by decide) rfl rfl ?_
      refine x_goto 4 dX1_nextPicks_71 (by decide) ?_
      refine x_iload_n dX1_nextPicks_4 rfl ?_
      refine x_if_lt 74 dX1_nextPicks_5 (by decide) (fun _ => ?_) (fun c => absurd c (by decide))
      refine x_iconst (v := 0) dX1_nextPicks_74 (by decide) ?_
      have z9 := vP_2.mp hv
      exact x_iret dX1_nextPicks_75 rfl rfl (Nat.le_refl _) (Nat.le_refl _) ⟨false, P, pk, rfl, (xup_id hp).symm, fun q => (by cases q), nx_2n (by omega) (by omega)⟩
    · rw [nI_leI (by omega) (by omega)] at c_22
      refine x_aload_n dX1_nextPicks_25 rfl ?_
      refine x_get lf_X1_15 dX1_nextPicks_26 hc rfl ?_
      refine x_iload_n dX1_nextPicks_29 rfl ?_
      refine x_dup2 dX1_nextPicks_30 rfl rfl ?_
      refine x_ialdN (j := 0) hp rfl (by decide) (by decide) dX1_nextPicks_31 ?_
      refine x_top (hpk 0 (by omega)) ?_
      refine x_iconst (v := 1) dX1_nextPicks_32 (by decide) ?_
      refine x_iadd dX1_nextPicks_33 ?_
      refine x_top (y := nI ((P 0) + 1)) (nI_add (P 0) 1) ?_
      refine x_iastN (j := 0) hp rfl (by decide) (by decide) dX1_nextPicks_34 ?_
      refine x_iload_n dX1_nextPicks_35 rfl ?_
      refine x_iconst (v := 1) dX1_nextPicks_36 (by decide) ?_
      refine x_iadd dX1_nextPicks_37 ?_
      refine x_top (y := 1) (by decide) ?_
      refine x_istore_n [(0, .ref 200), (1, .int 2), (2, .int 0), (3, .int 1)] dX1_nextPicks_38 (by decide) rfl rfl ?_
      refine x_iload_n dX1_nextPicks_39 rfl ?_
      refine x_iload_n dX1_nextPicks_40 rfl ?_
      refine x_icmp_ge 66 dX1_nextPicks_41 (by decide) (fun c => absurd c (by decide)) (fun _ => ?_)
      refine x_aload_n dX1_nextPicks_44 rfl ?_
      refine x_get lf_X1_15 dX1_nextPicks_45 ((xup_ne (by decide)).trans hc) rfl ?_
      refine x_iload_n dX1_nextPicks_48 rfl ?_
      refine x_aload_n dX1_nextPicks_49 rfl ?_
      refine x_get lf_X1_15 dX1_nextPicks_50 ((xup_ne (by decide)).trans hc) rfl ?_
      refine x_iload_n dX1_nextPicks_53 rfl ?_
      refine x_iconst (v := 1) dX1_nextPicks_54 (by decide) ?_
      refine x_isub dX1_nextPicks_55 ?_
      refine x_top (y := 0) (by decide) ?_
      refine x_ialdN (j := 0) (xup_self _ _ _) rfl (by decide) (by decide) dX1_nextPicks_56 ?_
      refine x_top rfl ?_
      refine x_iconst (v := 1) dX1_nextPicks_57 (by decide) ?_
      refine x_iadd dX1_nextPicks_58 ?_
      refine x_top (y := nI (((P 0) + 1) + 1)) (nI_add ((P 0) + 1) 1) ?_
      refine x_iastN (j := 1) (xup_self _ _ _) rfl (by decide) (by decide) dX1_nextPicks_59 ?_
      refine x_iinc (v := 2) [(0, .ref 200), (1, .int 2), (2, .int 0), (3, .int 2)] dX1_nextPicks_60 rfl (by decide) (by decide) rfl rfl ?_
      refine x_goto 39 dX1_nextPicks_63 (by decide) ?_
      refine x_iload_n dX1_nextPicks_39 rfl ?_
      refine x_iload_n dX1_nextPicks_40 rfl ?_
      refine x_icmp_ge 66 dX1_nextPicks_41 (by decide) (fun _ => ?_) (fun c => absurd c (by decide))
      refine x_iconst (v := 1) dX1_nextPicks_66 (by decide) ?_
      have z9 := vP_2.mp hv
      refine x_iret dX1_nextPicks_67 rfl rfl (Nat.le_refl _) (Nat.le_refl _) ⟨true, (fun i => if i = 0 then (P 0) + 1 else if i = 1 then ((P 0) + 1) + 1 else 0), upd (upd pk 0 (nI ((P 0) + 1))) 1 (nI (((P 0) + 1) + 1)), rfl, by simp only [xup_up], ?_, ?_⟩
      · exact fun _ => all_2 (p := fun i => (upd (upd pk 0 (nI ((P 0) + 1))) 1 (nI (((P 0) + 1) + 1))) i = nI ((fun i => if i = 0 then (P 0) + 1 else if i = 1 then ((P 0) + 1) + 1 else 0) i)) rfl rfl
      · exact nx_2 hN hv (by simp; omega)
  · rw [nI_leI (by omega) (by omega)] at c_22
    refine x_aload_n dX1_nextPicks_25 rfl ?_
    refine x_get lf_X1_15 dX1_nextPicks_26 hc rfl ?_
    refine x_iload_n dX1_nextPicks_29 rfl ?_
    refine x_dup2 dX1_nextPicks_30 rfl rfl ?_
    refine x_ialdN (j := 1) hp rfl (by decide) (by decide) dX1_nextPicks_31 ?_
    refine x_top (hpk 1 (by omega)) ?_
    refine x_iconst (v := 1) dX1_nextPicks_32 (by decide) ?_
    refine x_iadd dX1_nextPicks_33 ?_
    refine x_top (y := nI ((P 1) + 1)) (nI_add (P 1) 1) ?_
    refine x_iastN (j := 1) hp rfl (by decide) (by decide) dX1_nextPicks_34 ?_
    refine x_iload_n dX1_nextPicks_35 rfl ?_
    refine x_iconst (v := 1) dX1_nextPicks_36 (by decide) ?_
    refine x_iadd dX1_nextPicks_37 ?_
    refine x_top (y := 2) (by decide) ?_
    refine x_istore_n [(0, .ref 200), (1, .int 2), (2, .int 1), (3, .int 2)] dX1_nextPicks_38 (by decide) rfl rfl ?_
    refine x_iload_n dX1_nextPicks_39 rfl ?_
    refine x_iload_n dX1_nextPicks_40 rfl ?_
    refine x_icmp_ge 66 dX1_nextPicks_41 (by decide) (fun _ => ?_) (fun c => absurd c (by decide))
    refine x_iconst (v := 1) dX1_nextPicks_66 (by decide) ?_
    have z9 := vP_2.mp hv
    refine x_iret dX1_nextPicks_67 rfl rfl (Nat.le_refl _) (Nat.le_refl _) ⟨true, (fun i => if i = 0 then P 0 else if i = 1 then (P 1) + 1 else 0), upd pk 1 (nI ((P 1) + 1)), rfl, rfl, ?_, ?_⟩
    · exact fun _ => all_2 (p := fun i => (upd pk 1 (nI ((P 1) + 1))) i = nI ((fun i => if i = 0 then P 0 else if i = 1 then (P 1) + 1 else 0) i)) (hpk 0 (by omega)) rfl
    · exact nx_2 hN hv (by simp; omega)
set_option maxRecDepth 100000 in
set_option maxHeartbeats 4000000 in
theorem k_nextPicks_3 {G : xG} {h : xHp} {gl kb : Int32} {N cn : Nat} {pk : Nat → Int32} {P : Nat → Nat} (hc : h.1 200 = some (.inr (1, [.ref 3, .ref 190, .ref 196, .int gl, .int kb, .ref 201, .int (nI N), .ref 202, .ref 203, .int (nI cn)]))) (hp : h.1 202 = some (.inl (0, 3, .inl pk))) (hpk : ∀ i, i < 3 → pk i = nI (P i)) (hN : N ≤ 12) (hv : vP 3 N P) : MX G mX1_nextPicks 1 0 0 [.ref 200, .int 3] h (fun o h' => ∃ (b : Bool) (P' : Nat → Nat) (pk' : Nat → Int32), o = .inl (some (.int (bi b))) ∧ h' = xup h 202 (.inl (0, 3, .inl pk')) ∧ (b = true → ∀ i, i < 3 → pk' i = nI (P' i)) ∧ nxQ 3 N P b P') := by
  have z8 := vP_3.mp hv
  refine MX.of [(0, .ref 200), (1, .int 3)] (by decide) rfl (Nat.le_of_ble_eq_true rfl) rfl ?_
  refine x_iload_n dX1_nextPicks_0 rfl ?_
  refine x_iconst (v := 1) dX1_nextPicks_1 (by decide) ?_
  refine x_isub dX1_nextPicks_2 ?_
  refine x_top (y := 2) (by decide) ?_
  refine x_istore_n [(0, .ref 200), (1, .int 3), (2, .int 2)] dX1_nextPicks_3 (by decide) rfl rfl ?_
  refine x_iload_n dX1_nextPicks_4 rfl ?_
  refine x_if_lt 74 dX1_nextPicks_5 (by decide) (fun c => absurd c (by decide)) (fun _ => ?_)
  refine x_aload_n dX1_nextPicks_8 rfl ?_
  refine x_get lf_X1_15 dX1_nextPicks_9 hc rfl ?_
  refine x_iload_n dX1_nextPicks_12 rfl ?_
  refine x_ialdN (j := 2) hp rfl (by decide) (by decide) dX1_nextPicks_13 ?_
  refine x_top (hpk 2 (by omega)) ?_
  refine x_aload_n dX1_nextPicks_14 rfl ?_
  refine x_get lf_X1_46 dX1_nextPicks_15 hc rfl ?_
  refine x_iload_n dX1_nextPicks_18 rfl ?_
  refine x_isub dX1_nextPicks_19 ?_
  refine x_top (y := nI (N - 3)) (pk_sub (a := N) (b := 3) (by omega)) ?_
  refine x_iload_n dX1_nextPicks_20 rfl ?_
  refine x_iadd dX1_nextPicks_21 ?_
  refine x_top (y := nI ((N - 3) + 2)) (nI_add (N - 3) 2) ?_
  refine x_icmp_ge 68 dX1_nextPicks_22 (by decide) (fun c_22 => ?_) (fun c_22 => ?_)
  · rw [nI_leI (by omega) (by omega)] at c_22
    refine x_iinc (v := 1) [(0, .ref 200), (1, .int 3), (2, .int 1)] dX1_nextPicks_68 rfl (by decide) (by decide) rfl rfl ?_
    refine x_goto 4 dX1_nextPicks_71 (by decide) ?_
    refine x_iload_n dX1_nextPicks_4 rfl ?_
    refine x_if_lt 74 dX1_nextPicks_5 (by decide) (fun c => absurd c (by decide)) (fun _ => ?_)
    refine x_aload_n dX1_nextPicks_8 rfl ?_
    refine x_get lf_X1_15 dX1_nextPicks_9 hc rfl ?_
    refine x_iload_n dX1_nextPicks_12 rfl ?_
    refine x_ialdN (j := 1) hp rfl (by decide) (by decide) dX1_nextPicks_13 ?_
    refine x_top (hpk 1 (by omega)) ?_
    refine x_aload_n dX1_nextPicks_14 rfl ?_
    refine x_get lf_X1_46 dX1_nextPicks_15 hc rfl ?_
    refine x_iload_n dX1_nextPicks_18 rfl ?_
    refine x_isub dX1_nextPicks_19 ?_
    refine x_top (y := nI (N - 3)) (pk_sub (a := N) (b := 3) (by omega)) ?_
    refine x_iload_n dX1_nextPicks_20 rfl ?_
    refine x_iadd dX1_nextPicks_21 ?_
    refine x_top (y := nI ((N - 3) + 1)) (nI_add (N - 3) 1) ?_
    refine x_icmp_ge 68 dX1_nextPicks_22 (by decide) (fun c_22 => ?_) (fun c_22 => ?_)
    · rw [nI_leI (by omega) (by omega)] at c_22
      refine x_iinc (v := 0) [(0, .ref 200), (1, .int 3), (2, .int 0)] dX1_nextPicks_68 rfl (by decide) (by decide) rfl rfl ?_
      refine x_goto 4 dX1_nextPicks_71 (by decide) ?_
      refine x_iload_n dX1_nextPicks_4 rfl ?_
      refine x_if_lt 74 dX1_nextPicks_5 (by decide) (fun c => absurd c (by decide)) (fun _ => ?_)
      refine x_aload_n dX1_nextPicks_8 rfl ?_
      refine x_get lf_X1_15 dX1_nextPicks_9 hc rfl ?_
      refine x_iload_n dX1_nextPicks_12 rfl ?_
      refine x_ialdN (j := 0) hp rfl (by decide) (by decide) dX1_nextPicks_13 ?_
      refine x_top (hpk 0 (by omega)) ?_
      refine x_aload_n dX1_nextPicks_14 rfl ?_
      refine x_get lf_X1_46 dX1_nextPicks_15 hc rfl ?_
      refine x_iload_n dX1_nextPicks_18 rfl ?_
      refine x_isub dX1_nextPicks_19 ?_
      refine x_top (y := nI (N - 3)) (pk_sub (a := N) (b := 3) (by omega)) ?_
      refine x_iload_n dX1_nextPicks_20 rfl ?_
      refine x_iadd dX1_nextPicks_21 ?_
      refine x_top (y := nI ((N - 3) + 0)) (nI_add (N - 3) 0) ?_
      refine x_icmp_ge 68 dX1_nextPicks_22 (by decide) (fun c_22 => ?_) (fun c_22 => ?_)
      · rw [nI_leI (by omega) (by omega)] at c_22
        refine x_iinc (v := (-1)) [(0, .ref 200), (1, .int 3), (2, .int (-1))] dX1_nextPicks_68 rfl (by decide) (by decide) rfl rfl ?_
        refine x_goto 4 dX1_nextPicks_71 (by decide) ?_
        refine x_iload_n dX1_nextPicks_4 rfl ?_
        refine x_if_lt 74 dX1_nextPicks_5 (by decide) (fun _ => ?_) (fun c => absurd c (by decide))
        refine x_iconst (v := 0) dX1_nextPicks_74 (by decide) ?_
        have z9 := vP_3.mp hv
        exact x_iret dX1_nextPicks_75 rfl rfl (Nat.le_refl _) (Nat.le_refl _) ⟨false, P, pk, rfl, (xup_id hp).symm, fun q => (by cases q), nx_3n (by omega) (by omega) (by omega)⟩
      · rw [nI_leI (by omega) (by omega)] at c_22
        refine x_aload_n dX1_nextPicks_25 rfl ?_
        refine x_get lf_X1_15 dX1_nextPicks_26 hc rfl ?_
        refine x_iload_n dX1_nextPicks_29 rfl ?_
        refine x_dup2 dX1_nextPicks_30 rfl rfl ?_
        refine x_ialdN (j := 0) hp rfl (by decide) (by decide) dX1_nextPicks_31 ?_
        refine x_top (hpk 0 (by omega)) ?_
        refine x_iconst (v := 1) dX1_nextPicks_32 (by decide) ?_
        refine x_iadd dX1_nextPicks_33 ?_
        refine x_top (y := nI ((P 0) + 1)) (nI_add (P 0) 1) ?_
        refine x_iastN (j := 0) hp rfl (by decide) (by decide) dX1_nextPicks_34 ?_
        refine x_iload_n dX1_nextPicks_35 rfl ?_
        refine x_iconst (v := 1) dX1_nextPicks_36 (by decide) ?_
        refine x_iadd dX1_nextPicks_37 ?_
        refine x_top (y := 1) (by decide) ?_
        refine x_istore_n [(0, .ref 200), (1, .int 3), (2, .int 0), (3, .int 1)] dX1_nextPicks_38 (by decide) rfl rfl ?_
        refine x_iload_n dX1_nextPicks_39 rfl ?_
        refine x_iload_n dX1_nextPicks_40 rfl ?_
        refine x_icmp_ge 66 dX1_nextPicks_41 (by decide) (fun c => absurd c (by decide)) (fun _ => ?_)
        refine x_aload_n dX1_nextPicks_44 rfl ?_
        refine x_get lf_X1_15 dX1_nextPicks_45 ((xup_ne (by decide)).trans hc) rfl ?_
        refine x_iload_n dX1_nextPicks_48 rfl ?_
        refine x_aload_n dX1_nextPicks_49 rfl ?_
        refine x_get lf_X1_15 dX1_nextPicks_50 ((xup_ne (by decide)).trans hc) rfl ?_
        refine x_iload_n dX1_nextPicks_53 rfl ?_
        refine x_iconst (v := 1) dX1_nextPicks_54 (by decide) ?_
        refine x_isub dX1_nextPicks_55 ?_
        refine x_top (y := 0) (by decide) ?_
        refine x_ialdN (j := 0) (xup_self _ _ _) rfl (by decide) (by decide) dX1_nextPicks_56 ?_
        refine x_top rfl ?_
        refine x_iconst (v := 1) dX1_nextPicks_57 (by decide) ?_
        refine x_iadd dX1_nextPicks_58 ?_
        refine x_top (y := nI (((P 0) + 1) + 1)) (nI_add ((P 0) + 1) 1) ?_
        refine x_iastN (j := 1) (xup_self _ _ _) rfl (by decide) (by decide) dX1_nextPicks_59 ?_
        refine x_iinc (v := 2) [(0, .ref 200), (1, .int 3), (2, .int 0), (3, .int 2)] dX1_nextPicks_60 rfl (by decide) (by decide) rfl rfl ?_
        refine x_goto 39 dX1_nextPicks_63 (by decide) ?_
        refine x_iload_n dX1_nextPicks_39 rfl ?_
        refine x_iload_n dX1_nextPicks_40 rfl ?_
        refine x_icmp_ge 66 dX1_nextPicks_41 (by decide) (fun c => absurd c (by decide)) (fun _ => ?_)
        refine x_aload_n dX1_nextPicks_44 rfl ?_
        refine x_get lf_X1_15 dX1_nextPicks_45 ((xup_ne (by decide)).trans ((xup_ne (by decide)).trans hc)) rfl ?_
        refine x_iload_n dX1_nextPicks_48 rfl ?_
        refine x_aload_n dX1_nextPicks_49 rfl ?_
        refine x_get lf_X1_15 dX1_nextPicks_50 ((xup_ne (by decide)).trans ((xup_ne (by decide)).trans hc)) rfl ?_
        refine x_iload_n dX1_nextPicks_53 rfl ?_
        refine x_iconst (v := 1) dX1_nextPicks_54 (by decide) ?_
        refine x_isub dX1_nextPicks_55 ?_
        refine x_top (y := 1) (by decide) ?_
        refine x_ialdN (j := 1) (xup_self _ _ _) rfl (by decide) (by decide) dX1_nextPicks_56 ?_
        refine x_top rfl ?_
        refine x_iconst (v := 1) dX1_nextPicks_57 (by decide) ?_
        refine x_iadd dX1_nextPicks_58 ?_
        refine x_top (y := nI ((((P 0) + 1) + 1) + 1)) (nI_add (((P 0) + 1) + 1) 1) ?_
        refine x_iastN (j := 2) (xup_self _ _ _) rfl (by decide) (by decide) dX1_nextPicks_59 ?_
        refine x_iinc (v := 3) [(0, .ref 200), (1, .int 3), (2, .int 0), (3, .int 3)] dX1_nextPicks_60 rfl (by decide) (by decide) rfl rfl ?_
        refine x_goto 39 dX1_nextPicks_63 (by decide) ?_
        refine x_iload_n dX1_nextPicks_39 rfl ?_
        refine x_iload_n dX1_nextPicks_40 rfl ?_
        refine x_icmp_ge 66 dX1_nextPicks_41 (by decide) (fun _ => ?_) (fun c => absurd c (by decide))
        refine x_iconst (v := 1) dX1_nextPicks_66 (by decide) ?_
        have z9 := vP_3.mp hv
        refine x_iret dX1_nextPicks_67 rfl rfl (Nat.le_refl _) (Nat.le_refl _) ⟨true, (fun i => if i = 0 then (P 0) + 1 else if i = 1 then ((P 0) + 1) + 1 else if i = 2 then (((P 0) + 1) + 1) + 1 else 0), upd (upd (upd pk 0 (nI ((P 0) + 1))) 1 (nI (((P 0) + 1) + 1))) 2 (nI ((((P 0) + 1) + 1) + 1)), rfl, by simp only [xup_up], ?_, ?_⟩
        · exact fun _ => all_3 (p := fun i => (upd (upd (upd pk 0 (nI ((P 0) + 1))) 1 (nI (((P 0) + 1) + 1))) 2 (nI ((((P 0) + 1) + 1) + 1))) i = nI ((fun i => if i = 0 then (P 0) + 1 else if i = 1 then ((P 0) + 1) + 1 else if i = 2 then (((P 0) + 1) + 1) + 1 else 0) i)) rfl rfl rfl
        · exact nx_3 hN hv (by simp; omega)
    · rw [nI_leI (by omega) (by omega)] at c_22
      refine x_aload_n dX1_nextPicks_25 rfl ?_
      refine x_get lf_X1_15 dX1_nextPicks_26 hc rfl ?_
      refine x_iload_n dX1_nextPicks_29 rfl ?_
      refine x_dup2 dX1_nextPicks_30 rfl rfl ?_
      refine x_ialdN (j := 1) hp rfl (by decide) (by decide) dX1_nextPicks_31 ?_
      refine x_top (hpk 1 (by omega)) ?_
      refine x_iconst (v := 1) dX1_nextPicks_32 (by decide) ?_
      refine x_iadd dX1_nextPicks_33 ?_
      refine x_top (y := nI ((P 1) + 1)) (nI_add (P 1) 1) ?_
      refine x_iastN (j := 1) hp rfl (by decide) (by decide) dX1_nextPicks_34 ?_
      refine x_iload_n dX1_nextPicks_35 rfl ?_
      refine x_iconst (v := 1) dX1_nextPicks_36 (by decide) ?_
      refine x_iadd dX1_nextPicks_37 ?_
      refine x_top (y := 2) (by decide) ?_
      refine x_istore_n [(0, .ref 200), (1, .int 3), (2, .int 1), (3, .int 2)] dX1_nextPicks_38 (by decide) rfl rfl ?_
      refine x_iload_n dX1_nextPicks_39 rfl ?_
      refine x_iload_n dX1_nextPicks_40 rfl ?_
      refine x_icmp_ge 66 dX1_nextPicks_41 (by decide) (fun c => absurd c (by decide)) (fun _ => ?_)
      refine x_aload_n dX1_nextPicks_44 rfl ?_
      refine x_get lf_X1_15 dX1_nextPicks_45 ((xup_ne (by decide)).trans hc) rfl ?_
      refine x_iload_n dX1_nextPicks_48 rfl ?_
      refine x_aload_n dX1_nextPicks_49 rfl ?_
      refine x_get lf_X1_15 dX1_nextPicks_50 ((xup_ne (by decide)).trans hc) rfl ?_
      refine x_iload_n dX1_nextPicks_53 rfl ?_
      refine x_iconst (v := 1) dX1_nextPicks_54 (by decide) ?_
      refine x_isub dX1_nextPicks_55 ?_
      refine x_top (y := 1) (by decide) ?_
      refine x_ialdN (j := 1) (xup_self _ _ _) rfl (by decide) (by decide) dX1_nextPicks_56 ?_
      refine x_top rfl ?_
      refine x_iconst (v := 1) dX1_nextPicks_57 (by decide) ?_
      refine x_iadd dX1_nextPicks_58 ?_
      refine x_top (y := nI (((P 1) + 1) + 1)) (nI_add ((P 1) + 1) 1) ?_
      refine x_iastN (j := 2) (xup_self _ _ _) rfl (by decide) (by decide) dX1_nextPicks_59 ?_
      refine x_iinc (v := 3) [(0, .ref 200), (1, .int 3), (2, .int 1), (3, .int 3)] dX1_nextPicks_60 rfl (by decide) (by decide) rfl rfl ?_
      refine x_goto 39 dX1_nextPicks_63 (by decide) ?_
      refine x_iload_n dX1_nextPicks_39 rfl ?_
      refine x_iload_n dX1_nextPicks_40 rfl ?_
      refine x_icmp_ge 66 dX1_nextPicks_41 (by decide) (fun _ => ?_) (fun c => absurd c (by decide))
      refine x_iconst (v := 1) dX1_nextPicks_66 (by decide) ?_
      have z9 := vP_3.mp hv
      refine x_iret dX1_nextPicks_67 rfl rfl (Nat.le_refl _) (Nat.le_refl _) ⟨true, (fun i => if i = 0 then P 0 else if i = 1 then (P 1) + 1 else if i = 2 then ((P 1) + 1) + 1 else 0), upd (upd pk 1 (nI ((P 1) + 1))) 2 (nI (((P 1) + 1) + 1)), rfl, by simp only [xup_up], ?_, ?_⟩
      · exact fun _ => all_3 (p := fun i => (upd (upd pk 1 (nI ((P 1) + 1))) 2 (nI (((P 1) + 1) + 1))) i = nI ((fun i => if i = 0 then P 0 else if i = 1 then (P 1) + 1 else if i = 2 then ((P 1) + 1) + 1 else 0) i)) (hpk 0 (by omega)) rfl rfl
      · exact nx_3 hN hv (by simp; omega)
  · rw [nI_leI (by omega) (by omega)] at c_22
    refine x_aload_n dX1_nextPicks_25 rfl ?_
    refine x_get lf_X1_15 dX1_nextPicks_26 hc rfl ?_
    refine x_iload_n dX1_nextPicks_29 rfl ?_
    refine x_dup2 dX1_nextPicks_30 rfl rfl ?_
    refine x_ialdN (j := 2) hp rfl (by decide) (by decide) dX1_nextPicks_31 ?_
    refine x_top (hpk 2 (by omega)) ?_
    refine x_iconst (v := 1) dX1_nextPicks_32 (by decide) ?_
    refine x_iadd dX1_nextPicks_33 ?_
    refine x_top (y := nI ((P 2) + 1)) (nI_add (P 2) 1) ?_
    refine x_iastN (j := 2) hp rfl (by decide) (by decide) dX1_nextPicks_34 ?_
    refine x_iload_n dX1_nextPicks_35 rfl ?_
    refine x_iconst (v := 1) dX1_nextPicks_36 (by decide) ?_
    refine x_iadd dX1_nextPicks_37 ?_
    refine x_top (y := 3) (by decide) ?_
    refine x_istore_n [(0, .ref 200), (1, .int 3), (2, .int 2), (3, .int 3)] dX1_nextPicks_38 (by decide) rfl rfl ?_
    refine x_iload_n dX1_nextPicks_39 rfl ?_
    refine x_iload_n dX1_nextPicks_40 rfl ?_
    refine x_icmp_ge 66 dX1_nextPicks_41 (by decide) (fun _ => ?_) (fun c => absurd c (by decide))
    refine x_iconst (v := 1) dX1_nextPicks_66 (by decide) ?_
    have z9 := vP_3.mp hv
    refine x_iret dX1_nextPicks_67 rfl rfl (Nat.le_refl _) (Nat.le_refl _) ⟨true, (fun i => if i = 0 then P 0 else if i = 1 then P 1 else if i = 2 then (P 2) + 1 else 0), upd pk 2 (nI ((P 2) + 1)), rfl, rfl, ?_, ?_⟩
    · exact fun _ => all_3 (p := fun i => (upd pk 2 (nI ((P 2) + 1))) i = nI ((fun i => if i = 0 then P 0 else if i = 1 then P 1 else if i = 2 then (P 2) + 1 else 0) i)) (hpk 0 (by omega)) (hpk 1 (by omega)) rfl
    · exact nx_3 hN hv (by simp; omega)
