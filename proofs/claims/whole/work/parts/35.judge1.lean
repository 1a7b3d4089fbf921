/-! settling: what stays true -/
abbrev fin1 (cs : Bool) (s : Nat → Option Nat) (σ : JS) (n d : Nat) : Prop := rowS σ.1 n = true ∧ (cs = true → σ.2.1 n = nI d)
def wgt (cs : Bool) (σ : JS) (n : Nat) : Nat := if rowS σ.1 n = true then (if cs = true then (σ.2.1 n).toNatClampNeg else 0) else 1001
def pot (cs : Bool) (σ : JS) : Nat := fb_sm (wgt cs σ) 1000
def bsI (F : Nat → Bool) (L : Nat → Nat) (s : Nat → Option Nat) (cs : Bool) (l : Nat) (σ : JS) : Prop :=
  (wfR σ.1 ∧ σ.2.2.2.2.2.1 = false ∧ ∀ n, n < 1000 → rowS σ.1 n = true → hiOk σ (σ.2.1 n)) ∧
  (∀ n, n < 1000 → rowS σ.1 n = true → ∃ d, s n = some d ∧ (cs = true → nI d ≤ σ.2.1 n)) ∧
  (∀ n d, n < 1000 → s n = some d → (F n = true ∨ L (n / 100) < l) → fin1 cs s σ n d) ∧
  (0 ≤ σ.2.2.2.1 ∧ σ.2.2.2.1.toInt + (pot cs σ : Int) ≤ 1002000) ∧
  (cs = false → ∀ n, n < 1000 → σ.2.1 n = 0)
def tick (σ ρ : JS) : Prop := σ.2.2.2.1 ≤ ρ.2.2.2.1 ∧ ∀ k, (ρ.2.2.1 k = σ.2.2.1 k ∧ ∀ n, n < 1000 → n / 100 = k → rowS ρ.1 n = rowS σ.1 n ∧ ρ.2.1 n = σ.2.1 n) ∨ σ.2.2.2.1 < ρ.2.2.1 k
theorem tick_rf (σ : JS) : tick σ σ := ⟨Int32.le_refl _, fun k => Or.inl ⟨rfl, fun _ _ _ => ⟨rfl, rfl⟩⟩⟩
theorem tk_cases {cs : Bool} {n : Nat} {s : Int32} {σ : JS} (hn : n < 1000) (hw : wfR σ.1) : tkP cs n s σ = σ ∨ (wfR (tkP cs n s σ).1 ∧ (∀ m, m < 1000 → rowS (tkP cs n s σ).1 m = (rowS σ.1 m || decide (m = n))) ∧ (tkP cs n s σ).2.1 = (if cs = true then upd σ.2.1 n s else σ.2.1) ∧ (tkP cs n s σ).2.2.1 = upd σ.2.2.1 (n / 100) (σ.2.2.2.1 + 1) ∧ (tkP cs n s σ).2.2.2.1 = σ.2.2.2.1 + 1 ∧ (tkP cs n s σ).2.2.2.2 = σ.2.2.2.2 ∧ (rowS σ.1 n = false ∨ (rowS σ.1 n = true ∧ cs = true ∧ s < σ.2.1 n))) := by
  unfold tkP
  split
  next => exact Or.inl rfl
  next h =>
    right
    by_cases hr : rowS σ.1 n = true
    · have hcs : cs = true ∧ ¬ σ.2.1 n ≤ s := by
        cases cs with
        | false => exact absurd ⟨hr, fun q => by cases q⟩ h
        | true => exact ⟨rfl, fun q => h ⟨hr, fun _ => q⟩⟩
      rw [if_pos hr]
      refine ⟨hw, fun m hm => ?_, rfl, rfl, rfl, rfl, Or.inr ⟨hr, hcs.1, Int32.not_le.mp hcs.2⟩⟩
      by_cases e : m = n
      · rw [e, hr]; rfl
      · simp [e]
    · rw [if_neg hr]
      have hr : rowS σ.1 n = false := by simpa using hr
      refine ⟨wfR_row hw hn, fun m hm => ?_, rfl, rfl, rfl, rfl, Or.inl hr⟩
      show rowS (fRow σ.1 n) m = _
      rw [rowS_row hw hn hm, flipS]
      by_cases e : m = n
      · rw [if_pos e, e, hr]; simp
      · rw [if_neg e]; simp [e]
theorem nI_toN {x : Int32} (h : 0 ≤ x) : nI x.toNatClampNeg = x ∧ x.toNatClampNeg < 2 ^ 31 ∧ (x.toNatClampNeg : Int) = x.toInt := by
  have e0 : ((0 : Int32)).toInt = 0 := by decide
  rw [Int32.le_iff_toInt_le, e0] at h
  have h2 := (fb_rng x).2
  have h3 : (x.toNatClampNeg : Int) = x.toInt := by
    show ((x.toInt.toNat : Nat) : Int) = x.toInt
    omega
  refine ⟨?_, by omega, h3⟩
  rw [fa_eq, nI_toInt (by omega), h3]
section JUDGE
variable {F : Nat → Bool} {V : Nat → RV} {rc : Nat} {U : Nat → Bool} {nt : Nat} {L : Nat → Nat} {s : Nat → Option Nat} {cs : Bool}
/-- what holds of the rows holds of the numbers -/
theorem hold_s {l r : Nat} {σ : JS} {τ : Nat → Nat} (hV : okRl nt (V r)) (hn : nt ≤ 10) (hS : Sat V rc L) (hr : r < rc) (hl : L (rvH (V r)) ≤ l) (hb : bsI F L s cs l σ) (hτ : okT (V r) nt τ) (hh : ∀ j, j < (V r).2.2.1 → tmHold ((V r).2.1 j) τ (rowS σ.1)) : holdS (V r) τ s := by
  intro j hj
  have h9 := hh j hj
  by_cases t2 : (V r).2.1 j 0 = 2
  · rw [hold_2 t2] at h9 ⊢; exact h9
  · obtain ⟨n1, n2⟩ := nm_lt hV hn hτ hj t2
    by_cases t0 : (V r).2.1 j 0 = 0
    · rw [hold_0 t0] at h9 ⊢
      obtain ⟨d, d1, -⟩ := hb.2.1 _ n1 h9
      show (s _).isSome = true
      rw [d1]; rfl
    · have t1 := ty_cases hV hj t2 t0
      have hk := sat_kind hS hr hj t2
      rw [if_pos t1] at hk
      rw [hold_1 t1] at h9 ⊢
      show (s _).isSome = false
      cases e : s (nmT ((V r).2.1 j) τ) with
      | none => rfl
      | some d =>
        have h8 := (hb.2.2.1 _ d n1 e (Or.inr (by rw [n2]; show L (rvK (V r) j) < l; omega))).1
        rw [h9] at h8; cases h8
theorem st_head (hs : IsSt F V rc U nt s) (hVa : ∀ r, r < rc → okRl nt (V r)) (hn : nt ≤ 10) (hS : Sat V rc L) {l r : Nat} {σ : JS} {τ : Nat → Nat} {high : Int32} (hr : r < rc) (hU : U r = true) (hl : L (rvH (V r)) ≤ l) (hb : bsI F L s cs l σ) (hτ : okT (V r) nt τ) (hh : ∀ j, j < (V r).2.2.1 → tmHold ((V r).2.1 j) τ (rowS σ.1)) (hg : ∀ j, j < (V r).2.2.1 → (V r).2.1 j 0 = 0 → σ.2.1 (nmT ((V r).2.1 j) τ) ≤ high) (h0 : hiOk σ high) : ∃ d, s (nmT (V r).1 τ) = some d ∧ (cs = true → nI d ≤ high + 1) := by
  have hV := hVa r hr
  have hhs := hold_s hV hn hS hr hl hb hτ hh
  cases cs with
  | false =>
    obtain ⟨d, d1, -⟩ := hs.2.1 r τ 1000 hr hU hτ hhs (fun j hj t0 => by
      obtain ⟨n1, n2⟩ := nm_lt hV hn hτ hj (by rw [t0]; decide)
      obtain ⟨d, d1, -⟩ := hb.2.1 _ n1 ((hold_0 t0).mp (hh j hj))
      exact ⟨d, d1, st_le hVa hn hs n1 d1⟩)
    exact ⟨d, d1, fun q => by cases q⟩
  | true =>
    obtain ⟨z1, z2, z3⟩ := nI_toN h0.1
    have hc := hiOk_1000 h0
    obtain ⟨d, d1, d2⟩ := hs.2.1 r τ high.toNatClampNeg hr hU hτ hhs (fun j hj t0 => by
      obtain ⟨n1, n2⟩ := nm_lt hV hn hτ hj (by rw [t0]; decide)
      obtain ⟨d, d1, d2⟩ := hb.2.1 _ n1 ((hold_0 t0).mp (hh j hj))
      refine ⟨d, d1, ?_⟩
      have h1 := st_le hVa hn hs n1 d1
      have h2 := Int32.le_trans (d2 rfl) (hg j hj t0)
      rw [← z1, Int32.le_iff_toInt_le, nI_toInt (by omega), nI_toInt z2] at h2
      omega)
    refine ⟨d, d1, fun _ => ?_⟩
    rw [← z1] at hc ⊢
    rw [Int32.le_iff_toInt_le, nI_toInt z2, nI_toInt (by omega)] at hc
    rw [show nI high.toNatClampNeg + 1 = nI (high.toNatClampNeg + 1) from nI_add _ 1]
    exact nI_le (by omega) (by omega)
end JUDGE
