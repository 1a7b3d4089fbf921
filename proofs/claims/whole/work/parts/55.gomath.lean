/-! STEPS are one; KINDS that an ATOM leans on alone matter; FACTS that go -/
section GOM
variable {F : Nat → Bool} {V : Nat → RV} {rc : Nat} {U : Nat → Bool} {nt : Nat} {L : Nat → Nat}
theorem st_half (hV : ∀ r, r < rc → okRl nt (V r)) (hn : nt ≤ 10) (hS : Sat V rc L) {s s' : Nat → Option Nat} (h : IsSt F V rc U nt s) (h' : IsSt F V rc U nt s') {l : Nat} (hl : ∀ n, n < 1000 → L (n / 100) < l → s n = s' n) : ∀ d n, n < 1000 → L (n / 100) = l → s n = some d → ∃ d', s' n = some d' ∧ d' ≤ d := by
  intro d
  induction d using Nat.strongRecOn with
  | _ d ih =>
    intro n hn9 hln hd
    rcases h.2.2 n d hn9 hd with q | ⟨r, hr, hU, τ, h1, h2, h3, h4, h5⟩
    · exact ⟨0, h'.1 n hn9 q, Nat.zero_le _⟩
    · have hv := hV r hr
      have hk := head_k hv hn h1
      rw [h3] at hk
      have hsm : ∀ j, j < (V r).2.2.1 → ¬ (V r).2.1 j 0 = 2 → nmT ((V r).2.1 j) τ < 1000 ∧ L (nmT ((V r).2.1 j) τ / 100) + (if (V r).2.1 j 0 = 1 then 1 else 0) ≤ l := fun j hj t2 => by
        obtain ⟨n1, n2⟩ := nm_lt hv hn h1 hj t2
        refine ⟨n1, ?_⟩
        rw [n2, ← hln, hk.2]
        exact sat_kind hS hr hj t2
      have hat : ∀ j, j < (V r).2.2.1 → (V r).2.1 j 0 = 0 → ∃ d', s' (nmT ((V r).2.1 j) τ) = some d' ∧ d' ≤ d - 1 := fun j hj t0 => by
        obtain ⟨e, e1, e2⟩ := h5 j hj t0
        obtain ⟨n1, n2⟩ := hsm j hj (by rw [t0]; decide)
        rw [if_neg (by rw [t0]; decide)] at n2
        rcases Nat.lt_or_ge (L (nmT ((V r).2.1 j) τ / 100)) l with z | z
        · exact ⟨e, by rw [← hl _ n1 z]; exact e1, by omega⟩
        · obtain ⟨d', a, b⟩ := ih e e2 _ n1 (by omega) e1
          exact ⟨d', a, by omega⟩
      have hh2 : holdS (V r) τ s' := by
        intro j hj
        by_cases t2 : (V r).2.1 j 0 = 2
        · exact (hold_2 t2).mpr ((hold_2 t2).mp (h2 j hj))
        · by_cases t0 : (V r).2.1 j 0 = 0
          · rw [hold_0 t0]
            obtain ⟨d', a, -⟩ := hat j hj t0
            show (s' _).isSome = true
            rw [a]; rfl
          · have t1 := ty_cases hv hj t2 t0
            obtain ⟨n1, n2⟩ := hsm j hj t2
            rw [if_pos t1] at n2
            rw [hold_1 t1]
            have h9 := (hold_1 t1).mp (h2 j hj)
            show (s' _).isSome = false
            rw [← hl _ n1 (by omega)]; exact h9
      obtain ⟨d', a, b⟩ := h'.2.1 r τ (d - 1) hr hU h1 hh2 hat
      rw [h3] at a
      exact ⟨d', a, by omega⟩
theorem st_unique (hV : ∀ r, r < rc → okRl nt (V r)) (hn : nt ≤ 10) (hS : Sat V rc L) {s s' : Nat → Option Nat} (h : IsSt F V rc U nt s) (h' : IsSt F V rc U nt s') : ∀ n, n < 1000 → s n = s' n := by
  have key : ∀ l n, n < 1000 → L (n / 100) < l → s n = s' n := by
    intro l
    induction l with
    | zero => exact fun n _ q => absurd q (by omega)
    | succ l ih =>
      intro n hn9 hl
      rcases Nat.lt_or_ge (L (n / 100)) l with z | z
      · exact ih n hn9 z
      · have e : L (n / 100) = l := by omega
        have a := st_half hV hn hS h h' ih
        have b := st_half hV hn hS h' h (fun m h1 h2 => (ih m h1 h2).symm)
        cases e1 : s n with
        | none =>
          cases e2 : s' n with
          | none => rfl
          | some d => obtain ⟨d', q, -⟩ := b d n hn9 e e2; rw [e1] at q; cases q
        | some d =>
          obtain ⟨d', q1, q2⟩ := a d n hn9 e e1
          obtain ⟨d2, q3, q4⟩ := b d' n hn9 e q1
          rw [e1] at q3
          injection q3 with q3
          rw [q1, show d' = d by omega]
  exact fun n hn9 => key (L (n / 100) + 1) n hn9 (by omega)
/-- by the RULES of closed KINDS alone -/
theorem st_restr (hV : ∀ r, r < rc → okRl nt (V r)) (hn : nt ≤ 10) {m9 : Nat} (hc : clK V rc m9) {F' : Nat → Bool} (hF : ∀ n, n < 1000 → m9.testBit (n / 100) = true → F' n = F n) {s : Nat → Option Nat} (h : IsSt F V rc (fun _ => true) nt s) : IsSt F' V rc (fun r => m9.testBit (rvH (V r))) nt (fun n => if m9.testBit (n / 100) = true then s n else if F' n = true then some 0 else none) := by
  have hsame : ∀ r τ, r < rc → m9.testBit (rvH (V r)) = true → okT (V r) nt τ → ∀ j, j < (V r).2.2.1 → ¬ (V r).2.1 j 0 = 2 → m9.testBit (nmT ((V r).2.1 j) τ / 100) = true := fun r τ hr hU hτ j hj t2 => by
    rw [(nm_lt (hV r hr) hn hτ hj t2).2]
    exact hc r hr hU j hj t2
  refine ⟨fun n hn9 q => ?_, fun r τ e hr hU hτ hh hi => ?_, fun n d hn9 hd => ?_⟩
  · show (if m9.testBit (n / 100) = true then s n else if F' n = true then some 0 else none) = some 0
    by_cases z : m9.testBit (n / 100) = true
    · rw [if_pos z]; exact h.1 n hn9 (by rw [← hF n hn9 z]; exact q)
    · rw [if_neg z, if_pos q]
  · have hk := head_k (hV r hr) hn hτ
    show ∃ d, (if m9.testBit (nmT (V r).1 τ / 100) = true then s (nmT (V r).1 τ) else _) = some d ∧ d ≤ e + 1
    rw [hk.2, if_pos hU]
    refine h.2.1 r τ e hr rfl hτ (fun j hj => ?_) (fun j hj t0 => ?_)
    · refine hold_cong (fun t2 => ?_) (hh j hj)
      show (if m9.testBit (nmT ((V r).2.1 j) τ / 100) = true then s (nmT ((V r).2.1 j) τ) else _).isSome = _
      rw [if_pos (hsame r τ hr hU hτ j hj t2)]
    · obtain ⟨d, d1, d2⟩ := hi j hj t0
      have d1 : (if m9.testBit (nmT ((V r).2.1 j) τ / 100) = true then s (nmT ((V r).2.1 j) τ) else _) = some d := d1
      rw [if_pos (hsame r τ hr hU hτ j hj (by rw [t0]; decide))] at d1
      exact ⟨d, d1, d2⟩
  · have hd : (if m9.testBit (n / 100) = true then s n else if F' n = true then some 0 else none) = some d := hd
    by_cases z : m9.testBit (n / 100) = true
    · rw [if_pos z] at hd
      rcases h.2.2 n d hn9 hd with q | ⟨r, hr, -, τ, h1, h2, h3, h4, h5⟩
      · exact Or.inl (by rw [hF n hn9 z]; exact q)
      · have hk := head_k (hV r hr) hn h1
        rw [h3] at hk
        have hU : m9.testBit (rvH (V r)) = true := by rw [← hk.2]; exact z
        refine Or.inr ⟨r, hr, hU, τ, h1, fun j hj => ?_, h3, h4, fun j hj t0 => ?_⟩
        · refine hold_cong (fun t2 => ?_) (h2 j hj)
          show _ = (if m9.testBit (nmT ((V r).2.1 j) τ / 100) = true then s (nmT ((V r).2.1 j) τ) else _).isSome
          rw [if_pos (hsame r τ hr hU h1 j hj t2)]
        · obtain ⟨e, e1, e2⟩ := h5 j hj t0
          refine ⟨e, ?_, e2⟩
          show (if m9.testBit (nmT ((V r).2.1 j) τ / 100) = true then s (nmT ((V r).2.1 j) τ) else _) = some e
          rw [if_pos (hsame r τ hr hU h1 j hj (by rw [t0]; decide))]; exact e1
    · rw [if_neg z] at hd
      by_cases q : F' n = true
      · exact Or.inl q
      · rw [if_neg q] at hd; cases hd
end GOM
/-! FACTS that go -/
def inD (D : Nat → Nat) : Nat → Nat → Bool
  | 0, _ => false
  | m + 1, n => inD D m n || decide (D m = n)
theorem inD_iff {D : Nat → Nat} {n : Nat} : ∀ {m : Nat}, inD D m n = true ↔ ∃ i, i < m ∧ D i = n
  | 0 => by simp [inD]
  | m + 1 => by
    simp only [inD, Bool.or_eq_true, decide_eq_true_eq]
    rw [inD_iff (m := m)]
    constructor
    · rintro (⟨i, a, b⟩ | q)
      · exact ⟨i, by omega, b⟩
      · exact ⟨m, by omega, q⟩
    · rintro ⟨i, a, b⟩
      rcases Nat.lt_or_ge i m with z | z
      · exact Or.inl ⟨i, z, b⟩
      · exact Or.inr (by rw [show m = i by omega]; exact b)
def minS (S : Nat → Bool) (m : Nat) (D : Nat → Nat) : Nat → Bool := fun n => S n && !inD D m n
theorem minS_0 (S : Nat → Bool) (D : Nat → Nat) : minS S 0 D = S := by funext n; simp [minS, inD]
theorem minS_s {S : Nat → Bool} {m : Nat} {D : Nat → Nat} (h1 : S (D m) = true) (h2 : ∀ i, i < m → D i ≠ D m) : flipS (minS S m D) (D m) = minS S (m + 1) D := by
  funext n
  unfold flipS minS
  by_cases e : n = D m
  · rw [if_pos e, e, h1]
    have : inD D m (D m) = false := by
      cases q : inD D m (D m) with
      | false => rfl
      | true => obtain ⟨i, a, b⟩ := inD_iff.mp q; exact absurd b (h2 i a)
    simp [inD, this]
  · rw [if_neg e]
    have e2 : decide (D m = n) = false := by simp; exact fun q => e q.symm
    simp [inD, e2]
def dOk (S : Nat → Bool) (m : Nat) (D : Nat → Nat) : Prop := (∀ i, i < m → D i < 1000 ∧ S (D i) = true) ∧ ∀ i j, i < j → j < m → D i < D j
/-- without these FACTS it doesn't FOLLOW -/
def cutS (S : Nat → Bool) (V : Nat → RV) (rc nt n m : Nat) (D : Nat → Nat) : Prop := ∃ s, IsSt (minS S m D) V rc (fun _ => true) nt s ∧ s n = none
def goP (S : Nat → Bool) (V : Nat → RV) (rc nt n m : Nat) (D : Nat → Nat) : Prop := dOk S m D ∧ cutS S V rc nt n m D ∧ (∀ m' D', 1 ≤ m' → m' < m → dOk S m' D' → ¬ cutS S V rc nt n m' D') ∧ ∀ D', dOk S m D' → cutS S V rc nt n m D' → lexL m D D'
/-- by the KINDS m9 alone -/
def cutK (S : Nat → Bool) (V : Nat → RV) (rc nt n m9 m : Nat) (D : Nat → Nat) (b : Bool) : Prop := ∃ s, IsSt (minS S m D) V rc (fun r => m9.testBit (rvH (V r))) nt s ∧ (s n).isSome = b
def candOk (S : Nat → Bool) (m9 N : Nat) (cd : Nat → Nat) : Prop := (∀ j, j < N → cd j < 1000 ∧ S (cd j) = true ∧ m9.testBit (cd j / 100) = true) ∧ (∀ i j, i < j → j < N → cd i < cd j) ∧ ∀ n, n < 1000 → S n = true → m9.testBit (n / 100) = true → ∃ j, j < N ∧ cd j = n
section GOM2
variable {S : Nat → Bool} {V : Nat → RV} {rc nt n m9 : Nat} {L : Nat → Nat}
theorem cut_k (hV : ∀ r, r < rc → okRl nt (V r)) (hn : nt ≤ 10) (hS : Sat V rc L) (hc : clK V rc m9) (hn9 : n < 1000) (hk : m9.testBit (n / 100) = true) {m m2 : Nat} {D D2 : Nat → Nat} (hD : ∀ a, a < 1000 → m9.testBit (a / 100) = true → minS S m2 D2 a = minS S m D a) (h : cutS S V rc nt n m D) : ¬ cutK S V rc nt n m9 m2 D2 true := by
  obtain ⟨s, h1, h2⟩ := h
  rintro ⟨s2, h3, h4⟩
  have h5 := st_restr hV hn hc hD h1
  have h6 := st_unique hV hn hS h3 h5 n hn9
  have h6 : s2 n = (if m9.testBit (n / 100) = true then s n else _) := h6
  rw [if_pos hk, h2] at h6
  rw [h6] at h4; cases h4
theorem cut_f (hV : ∀ r, r < rc → okRl nt (V r)) (hn : nt ≤ 10) (hS : Sat V rc L) (hL : ∀ k, L k ≤ 9) (hc : clK V rc m9) (hn9 : n < 1000) (hk : m9.testBit (n / 100) = true) {m : Nat} {D : Nat → Nat} (h : cutK S V rc nt n m9 m D false) : cutS S V rc nt n m D := by
  obtain ⟨s2, h3, h4⟩ := h
  obtain ⟨s, h1⟩ := st_exists (F := minS S m D) (U := fun _ => true) hV hn hS hL
  refine ⟨s, h1, ?_⟩
  have h5 := st_restr hV hn hc (fun _ _ _ => rfl) h1
  have h6 := st_unique hV hn hS h3 h5 n hn9
  have h6 : s2 n = (if m9.testBit (n / 100) = true then s n else _) := h6
  rw [if_pos hk] at h6
  rw [h6] at h4
  cases e : s n with
  | none => rfl
  | some d => rw [e] at h4; cases h4
theorem filt (K : Nat → Bool) : ∀ (m : Nat) (D : Nat → Nat), (∀ i j, i < j → j < m → D i < D j) → ∃ (m2 : Nat) (D2 : Nat → Nat), m2 ≤ m ∧ (∀ i, i < m2 → ∃ j, j < m ∧ D2 i = D j ∧ K (D j) = true) ∧ (∀ i j, i < j → j < m2 → D2 i < D2 j) ∧ (∀ j, j < m → K (D j) = true → ∃ i, i < m2 ∧ D2 i = D j) ∧ (m2 = m → ∀ j, j < m → K (D j) = true)
  | 0, D, _ => ⟨0, D, Nat.le_refl _, fun i hi => absurd hi (by omega), fun i j a b => absurd b (by omega), fun j hj => absurd hj (by omega), fun _ j hj => absurd hj (by omega)⟩
  | m + 1, D, h => by
    obtain ⟨m2, D2, a1, a2, a3, a4, a5⟩ := filt K m D (fun i j x y => h i j x (by omega))
    cases e : K (D m) with
    | false =>
      refine ⟨m2, D2, by omega, fun i hi => ?_, a3, fun j hj q => ?_, fun z => absurd z (by omega)⟩
      · obtain ⟨j, b1, b2⟩ := a2 i hi; exact ⟨j, by omega, b2⟩
      · rcases Nat.lt_or_ge j m with z | z
        · exact a4 j z q
        · rw [show j = m by omega, e] at q; cases q
    | true =>
      refine ⟨m2 + 1, fun i => if i = m2 then D m else D2 i, by omega, fun i hi => ?_, fun i j x y => ?_, fun j hj q => ?_, fun z j hj => ?_⟩
      · by_cases z : i = m2
        · exact ⟨m, by omega, by simp [z], e⟩
        · obtain ⟨j, b1, b2⟩ := a2 i (by omega); exact ⟨j, by omega, by simp [z]; exact b2.1, b2.2⟩
      · by_cases z : j = m2
        · obtain ⟨k, b1, b2, -⟩ := a2 i (by omega)
          simp only [z, if_pos, if_neg (show i ≠ m2 by omega)]
          rw [b2]; exact h k m b1 (by omega)
        · simp only [if_neg z, if_neg (show i ≠ m2 by omega)]
          exact a3 i j x (by omega)
      · rcases Nat.lt_or_ge j m with z | z
        · obtain ⟨i, b1, b2⟩ := a4 j z q
          exact ⟨i, by omega, by simp only [if_neg (show i ≠ m2 by omega)]; exact b2⟩
        · exact ⟨m2, by omega, by simp [show j = m by omega]⟩
      · rcases Nat.lt_or_ge j m with x | x
        · exact a5 (by omega) j x
        · rw [show j = m by omega]; exact e
/-- what the search by the KINDS alone tells of all FACTS -/
theorem go_no (hV : ∀ r, r < rc → okRl nt (V r)) (hn : nt ≤ 10) (hS : Sat V rc L) (hc : clK V rc m9) (hn9 : n < 1000) (hk : m9.testBit (n / 100) = true) {N : Nat} {cd : Nat → Nat} (hcd : candOk S m9 N cd) {s : Nat → Option Nat} (hs : IsSt S V rc (fun _ => true) nt s) (hsn : (s n).isSome = true) {m : Nat} {D : Nat → Nat} (hD : dOk S m D) (hlow : ∀ m' P, 1 ≤ m' → m' < m → vP m' N P → cutK S V rc nt n m9 m' (fun i => cd (P i)) true) (h : cutS S V rc nt n m D) : ∃ P, vP m N P ∧ ∀ i, i < m → D i = cd (P i) := by
  obtain ⟨m2, D2, a1, a2, a3, a4, a5⟩ := filt (fun a => m9.testBit (a / 100)) m D hD.2
  have hP : ∀ i, ∃ p, i < m2 → p < N ∧ cd p = D2 i := fun i => by
    by_cases z : i < m2
    · obtain ⟨j, b1, b2, b3⟩ := a2 i z
      obtain ⟨p, c1, c2⟩ := hcd.2.2 (D j) (hD.1 j b1).1 (hD.1 j b1).2 b3
      exact ⟨p, fun _ => ⟨c1, by rw [c2, b2]⟩⟩
    · exact ⟨0, fun q => absurd q z⟩
  obtain ⟨P, hP⟩ := Classical.axiomOfChoice hP
  have hvP : vP m2 N P := by
    refine ⟨fun i hi => (hP i hi).1, fun i j x y => ?_⟩
    have h1 := a3 i j x y
    rw [← (hP i (by omega)).2, ← (hP j y).2] at h1
    rcases Nat.lt_or_ge (P i) (P j) with z | z
    · exact z
    · rcases Nat.eq_or_lt_of_le z with w | w
      · rw [w] at h1; omega
      · have := hcd.2.1 _ _ w (hP i (by omega)).1; omega
  have hag : ∀ a, a < 1000 → m9.testBit (a / 100) = true → minS S m2 (fun i => cd (P i)) a = minS S m D a := fun a _ hka => by
    unfold minS
    congr 2
    cases e : inD D m a with
    | true =>
      obtain ⟨j, b1, b2⟩ := inD_iff.mp e
      obtain ⟨i, c1, c2⟩ := a4 j b1 (by rw [b2]; exact hka)
      exact inD_iff.mpr ⟨i, c1, by rw [(hP i c1).2, c2, b2]⟩
    | false =>
      cases e2 : inD (fun i => cd (P i)) m2 a with
      | false => rfl
      | true =>
        obtain ⟨i, c1, c2⟩ := inD_iff.mp e2
        obtain ⟨j, b1, b2, -⟩ := a2 i c1
        have : inD D m a = true := inD_iff.mpr ⟨j, b1, by rw [← b2, ← (hP i c1).2]; exact c2⟩
        rw [e] at this; cases this
  rcases Nat.lt_or_ge m2 m with z | z
  · exfalso
    rcases Nat.eq_zero_or_pos m2 with w | w
    · subst w
      refine cut_k hV hn hS hc hn9 hk hag h ⟨fun a => if m9.testBit (a / 100) = true then s a else if minS S 0 (fun i => cd (P i)) a = true then some 0 else none, ?_, ?_⟩
      · exact st_restr hV hn hc (fun a _ _ => by rw [minS_0]) hs
      · show (if m9.testBit (n / 100) = true then s n else _).isSome = true
        rw [if_pos hk]; exact hsn
    · exact cut_k hV hn hS hc hn9 hk hag h (hlow m2 P w z hvP)
  · have e : m2 = m := by omega
    subst e
    refine ⟨P, hvP, ?_⟩
    have heq : ∀ i, i < m2 → D2 i = D i := by
      have hmap : ∀ i, ∃ j, i < m2 → j < m2 ∧ D2 i = D j := fun i => by
        by_cases z : i < m2
        · obtain ⟨j, b1, b2, -⟩ := a2 i z; exact ⟨j, fun _ => ⟨b1, b2⟩⟩
        · exact ⟨0, fun q => absurd q z⟩
      obtain ⟨g, hg⟩ := Classical.axiomOfChoice hmap
      have hmono : ∀ i j, i < j → j < m2 → g i < g j := fun i j x y => by
        have h1 := a3 i j x y
        rw [(hg i (by omega)).2, (hg j y).2] at h1
        rcases Nat.lt_or_ge (g i) (g j) with z | z
        · exact z
        · rcases Nat.eq_or_lt_of_le z with w | w
          · rw [w] at h1; omega
          · have := hD.2 _ _ w (hg i (by omega)).1; omega
      have hge : ∀ i, i < m2 → i ≤ g i := fun i => by
        induction i with
        | zero => exact fun _ => Nat.zero_le _
        | succ i ih => intro hi; have := ih (by omega); have := hmono i (i + 1) (by omega) hi; omega
      have hle : ∀ k i, i + k + 1 = m2 → g i ≤ i := fun k => by
        induction k with
        | zero => intro i hi; have := (hg i (by omega)).1; omega
        | succ k ih => intro i hi; have := ih (i + 1) (by omega); have := hmono i (i + 1) (by omega) (by omega); omega
      intro i hi
      have h1 := hge i hi
      have h2 := hle (m2 - i - 1) i (by omega)
      rw [(hg i hi).2, show g i = i by omega]
    exact fun i hi => by rw [(hP i hi).2, heq i hi]
theorem lex_tot : ∀ (K : Nat) (a b : Nat → Nat), lexL K a b ∨ lexS K b a
  | 0, a, b => Or.inl (Or.inl (fun s hs => absurd hs (by omega)))
  | K + 1, a, b => by
    rcases Nat.lt_trichotomy (a 0) (b 0) with z | z | z
    · exact Or.inl (Or.inr ⟨0, by omega, fun r hr => absurd hr (by omega), z⟩)
    · rcases lex_tot K (fun i => a (i + 1)) (fun i => b (i + 1)) with (q | q) | q
      · exact Or.inl (Or.inl (fun s hs => by
          cases s with
          | zero => exact z
          | succ s => exact q s (by omega)))
      · exact Or.inl (Or.inr (lexS_s.mpr (Or.inr ⟨z, q⟩)))
      · exact Or.inr (lexS_s.mpr (Or.inr ⟨z.symm, q⟩))
    · exact Or.inr ⟨0, by omega, fun r hr => absurd hr (by omega), z⟩
theorem go_yes (hV : ∀ r, r < rc → okRl nt (V r)) (hn : nt ≤ 10) (hS : Sat V rc L) (hL : ∀ k, L k ≤ 9) (hc : clK V rc m9) (hn9 : n < 1000) (hk : m9.testBit (n / 100) = true) {N : Nat} {cd : Nat → Nat} (hcd : candOk S m9 N cd) {s : Nat → Option Nat} (hs : IsSt S V rc (fun _ => true) nt s) (hsn : (s n).isSome = true) {m : Nat} {P : Nat → Nat} (hP : vP m N P) (hlow : ∀ m' P, 1 ≤ m' → m' < m → vP m' N P → cutK S V rc nt n m9 m' (fun i => cd (P i)) true) (hcut : cutK S V rc nt n m9 m (fun i => cd (P i)) false) (hfst : ∀ Q, vP m N Q → lexS m Q P → cutK S V rc nt n m9 m (fun i => cd (Q i)) true) : goP S V rc nt n m (fun i => cd (P i)) := by
  refine ⟨⟨fun i hi => ⟨(hcd.1 _ (hP.1 i hi)).1, (hcd.1 _ (hP.1 i hi)).2.1⟩, fun i j a b => hcd.2.1 _ _ (hP.2 i j a b) (hP.1 j b)⟩, cut_f hV hn hS hL hc hn9 hk hcut, fun m' D' h1 h2 h3 h4 => ?_, fun D' h3 h4 => ?_⟩
  · obtain ⟨Q, q1, q2⟩ := go_no hV hn hS hc hn9 hk hcd hs hsn h3 (fun m2 P2 a b c => hlow m2 P2 a (by omega) c) h4
    exact cut_k hV hn hS hc hn9 hk (fun a _ _ => by
      unfold minS; congr 2
      cases e : inD D' m' a with
      | true => obtain ⟨j, b1, b2⟩ := inD_iff.mp e; exact inD_iff.mpr ⟨j, b1, by rw [← b2]; exact (q2 j b1).symm⟩
      | false =>
        cases e2 : inD (fun i => cd (Q i)) m' a with
        | false => rfl
        | true => obtain ⟨j, b1, b2⟩ := inD_iff.mp e2; rw [inD_iff.mpr ⟨j, b1, (q2 j b1).trans b2⟩] at e; cases e) h4 (hlow m' Q h1 h2 q1)
  · obtain ⟨Q, q1, q2⟩ := go_no hV hn hS hc hn9 hk hcd hs hsn h3 hlow h4
    have hlex : lexL m P Q := by
      rcases lex_tot m P Q with z | z
      · exact z
      · exact absurd (hfst Q q1 z) (cut_k hV hn hS hc hn9 hk (fun a _ _ => by
          unfold minS; congr 2
          cases e : inD D' m a with
          | true => obtain ⟨j, b1, b2⟩ := inD_iff.mp e; exact inD_iff.mpr ⟨j, b1, by rw [← b2]; exact (q2 j b1).symm⟩
          | false =>
            cases e2 : inD (fun i => cd (Q i)) m a with
            | false => rfl
            | true => obtain ⟨j, b1, b2⟩ := inD_iff.mp e2; rw [inD_iff.mpr ⟨j, b1, (q2 j b1).trans b2⟩] at e; cases e) h4)
    rcases hlex with z | ⟨k, z1, z2, z3⟩
    · exact Or.inl (fun i hi => by show cd (P i) = D' i; rw [q2 i hi, z i hi])
    · refine Or.inr ⟨k, z1, fun i hi => ?_, ?_⟩
      · show cd (P i) = D' i
        rw [q2 i (by omega), z2 i hi]
      · show cd (P k) < D' k
        rw [q2 k z1]; exact hcd.2.1 _ _ z3 (q1.1 k z1)
end GOM2
