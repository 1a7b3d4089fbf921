/-! firing a RULE: what stays true, and what is there at the end -/
def cntS (σ : JS) : Nat := fb_ct (rowS σ.1) 1000
theorem cntS_le (σ : JS) : cntS σ ≤ 1000 := fb_ct_le _ _
theorem cntS_mono {cs : Bool} {k : Nat} {σ ρ : JS} (h : grow cs k σ ρ) : cntS σ ≤ cntS ρ := fb_ct_sub (fun n hn q => (h.2.2.1 n hn q).1)
def hiOk (σ : JS) (high : Int32) : Prop := 0 ≤ high ∧ high ≤ nI (cntS σ)
theorem nI_mono {a b : Nat} (h : a ≤ b) (hb : b < 2 ^ 31) : nI a ≤ nI b := nI_le h hb
theorem hiOk_mono {cs : Bool} {k : Nat} {σ ρ : JS} {high : Int32} (h : hiOk σ high) (hg : grow cs k σ ρ) : hiOk ρ high := ⟨h.1, Int32.le_trans h.2 (nI_le (cntS_mono hg) (by have := cntS_le ρ; omega))⟩
theorem hiOk_max {σ : JS} {a b : Int32} (ha : hiOk σ a) (hb : hiOk σ b) : hiOk σ (imax a b) := by
  unfold imax
  split
  · exact hb
  · exact ha
theorem hiOk_0 (σ : JS) : hiOk σ 0 := ⟨Int32.le_refl _, nI_pos' (by have := cntS_le σ; omega)⟩
theorem imax_l (a b : Int32) : a ≤ imax a b := by
  unfold imax
  split
  next h => exact Int32.le_of_lt h
  next => exact Int32.le_refl _
theorem imax_r (a b : Int32) : b ≤ imax a b := by
  unfold imax
  split
  next => exact Int32.le_refl _
  next h => exact Int32.not_lt.mp h
theorem imax_le {a b c : Int32} (h1 : a ≤ c) (h2 : b ≤ c) : imax a b ≤ c := by
  unfold imax
  split
  · exact h2
  · exact h1
theorem imax_mono {a b c d : Int32} (h1 : a ≤ c) (h2 : b ≤ d) : imax a b ≤ imax c d := imax_le (Int32.le_trans h1 (imax_l c d)) (Int32.le_trans h2 (imax_r c d))
/-- the most STEPS of the TERMS from i on, and of those ahead -/
def bdM (v : RV) (τ : Nat → Nat) (g : Nat → Int32) : Nat → Nat → Int32 → Int32
  | 0, _, high => high
  | n + 1, i, high => bdM v τ g n (i + 1) (imax high (if v.2.1 i 0 = 0 then g (nmT (v.2.1 i) τ) else 0))
theorem bdM_mono {v : RV} {τ : Nat → Nat} {g g' : Nat → Int32} : ∀ (n i : Nat) {a b : Int32}, a ≤ b → (∀ j, i ≤ j → j < i + n → v.2.1 j 0 = 0 → g (nmT (v.2.1 j) τ) ≤ g' (nmT (v.2.1 j) τ)) → bdM v τ g n i a ≤ bdM v τ g' n i b
  | 0, _, _, _, h, _ => h
  | n + 1, i, a, b, h, hg => by
    refine bdM_mono n (i + 1) (imax_mono h ?_) (fun j h1 h2 => hg j (by omega) (by omega))
    by_cases e : v.2.1 i 0 = 0
    · rw [if_pos e, if_pos e]; exact hg i (by omega) (by omega) e
    · rw [if_neg e, if_neg e]; exact Int32.le_refl _
section FIRE
variable {v : RV} {nt : Nat} {cs : Bool} {Inv : JS → Prop}
/-- what is asked of Inv -/
def invOk (v : RV) (nt : Nat) (cs : Bool) (Inv : JS → Prop) : Prop :=
  (∀ σ, Inv σ → wfR σ.1 ∧ σ.2.2.2.2.2.1 = false ∧ ∀ n, n < 1000 → rowS σ.1 n = true → hiOk σ (σ.2.1 n)) ∧ (∀ σ i, Inv σ → Inv (rchP i σ)) ∧
  ∀ σ τ high, Inv σ → okT v nt τ → (∀ j, j < v.2.2.1 → tmHold (v.2.1 j) τ (rowS σ.1)) → (∀ j, j < v.2.2.1 → v.2.1 j 0 = 0 → σ.2.1 (nmT (v.2.1 j) τ) ≤ high) → hiOk σ high → Inv (tkP cs (nmT v.1 τ) (high + 1) σ)
def totT (θ : Nat → Option Nat) : Nat → Nat := fun s => (θ s).getD 0
theorem totT_ext (θ : Nat → Option Nat) : extT θ (totT θ) := fun s t _ h => by unfold totT; rw [h]; rfl
/-- the TERMS ahead of i hold -/
def ahead (v : RV) (σ : JS) (θ : Nat → Option Nat) (i : Nat) (high : Int32) : Prop := ∀ j, j < i → ∀ τ, extT θ τ → tmHold (v.2.1 j) τ (rowS σ.1) ∧ (v.2.1 j 0 = 0 → σ.2.1 (nmT (v.2.1 j) τ) ≤ high)
theorem nmT_k {nt : Nat} {t : Nat → Int32} {τ : Nat → Nat} (h2 : okA nt (t 2)) (h3 : okA nt (t 3)) (hn : nt ≤ 10) (h : ∀ s, s < 3 → sgIn t s → τ s < 10) : nmT t τ / 100 = (t 1).toNatClampNeg ∧ nmT t τ / 10 % 10 = thT (t 2) τ ∧ nmT t τ % 10 = thT (t 3) τ := by
  have a := thT_lt h2 hn (fun s hs e => h s hs (Or.inl e))
  have b := thT_lt h3 hn (fun s hs e => h s hs (Or.inr e))
  have e : nmT t τ = ((t 1).toNatClampNeg * 10 + thT (t 2) τ) * 10 + thT (t 3) τ := rfl
  revert a b e
  generalize nmT t τ = m
  generalize thT (t 2) τ = p
  generalize thT (t 3) τ = q
  intro a b e
  refine ⟨by omega, by omega, by omega⟩
theorem add1_mono {a b : Int32} (h : a ≤ b) (h0 : 0 ≤ a) (hb : b ≤ nI 1000) : a + 1 ≤ b + 1 := by
  have e0 : ((0 : Int32)).toInt = 0 := by decide
  have e1 : ((1 : Int32)).toInt = 1 := by decide
  have e2 : (nI 1000).toInt = 1000 := by decide
  rw [Int32.le_iff_toInt_le] at h h0 hb ⊢
  rw [e0] at h0
  rw [e2] at hb
  rw [fb_addI (by omega) (by omega), fb_addI (by omega) (by omega)]
  omega
theorem hiOk_1000 {σ : JS} {a : Int32} (h : hiOk σ a) : a ≤ nI 1000 := Int32.le_trans h.2 (nI_le (cntS_le σ) (by omega))
/-- SIGNS that stand in TERM j have THINGS below 10 -/
theorem tau_lt {τ : Nat → Nat} (hn : nt ≤ 10) (h : okT v nt τ) {j : Nat} (hj : j < v.2.2.1) : ∀ s, s < 3 → sgIn (v.2.1 j) s → τ s < 10 := fun s hs q => by
  have := h s hs ⟨j, hj, q⟩
  omega
theorem nm_lt {τ : Nat → Nat} (hv : okRl nt v) (hn : nt ≤ 10) (h : okT v nt τ) {j : Nat} (hj : j < v.2.2.1) (h2 : ¬ v.2.1 j 0 = 2) : nmT (v.2.1 j) τ < 1000 ∧ nmT (v.2.1 j) τ / 100 = (v.2.1 j 1).toNatClampNeg := by
  have hk := ((hv.2.1 j hj).2.1 h2).2
  have h9 := nmT_k (hv.2.1 j hj).2.2.1 (hv.2.1 j hj).2.2.2 hn (tau_lt hn h hj)
  omega
theorem hold_grow {k : Nat} {σ ρ : JS} {τ : Nat → Nat} (hv : okRl nt v) (hn : nt ≤ 10) (h : okT v nt τ) (hg : grow cs k σ ρ) {j : Nat} (hj : j < v.2.2.1) (hNot : v.2.1 j 0 = 1 → (v.2.1 j 1).toNatClampNeg ≠ k) (hh : tmHold (v.2.1 j) τ (rowS σ.1)) : tmHold (v.2.1 j) τ (rowS ρ.1) ∧ (cs = true → v.2.1 j 0 = 0 → ρ.2.1 (nmT (v.2.1 j) τ) ≤ σ.2.1 (nmT (v.2.1 j) τ)) := by
  unfold tmHold at hh ⊢
  by_cases h2 : v.2.1 j 0 = 2
  · rw [if_pos h2] at hh ⊢
    exact ⟨hh, fun _ q => by rw [h2] at q; exact absurd q (by decide)⟩
  · obtain ⟨n1, n2⟩ := nm_lt hv hn h hj h2
    rw [if_neg h2] at hh ⊢
    by_cases h0 : v.2.1 j 0 = 0
    · rw [if_pos h0] at hh ⊢
      exact ⟨(hg.2.2.1 _ n1 hh).1, fun c _ => (hg.2.2.1 _ n1 hh).2 c⟩
    · rw [if_neg h0] at hh ⊢
      have h1 : v.2.1 j 0 = 1 := by
        rcases (hv.2.1 j hj).1 with q | q | q
        · exact absurd q h0
        · exact q
        · exact absurd q h2
      refine ⟨?_, fun _ q => absurd q h0⟩
      rw [(hg.2.2.2 _ n1 (by rw [n2]; exact hNot h1)).1]
      exact hh
theorem bdM_ok {σ : JS} {τ : Nat → Nat} (hv : okRl nt v) (hn : nt ≤ 10) (h : okT v nt τ) (hm : ∀ n, n < 1000 → rowS σ.1 n = true → hiOk σ (σ.2.1 n)) : ∀ (n i : Nat) {high : Int32}, i + n = v.2.2.1 → hiOk σ high → (∀ j, i ≤ j → j < v.2.2.1 → tmHold (v.2.1 j) τ (rowS σ.1)) → hiOk σ (bdM v τ σ.2.1 n i high)
  | 0, _, _, _, hh, _ => hh
  | n + 1, i, high, hi, hh, hd => by
    refine bdM_ok hv hn h hm n (i + 1) (by omega) (hiOk_max hh ?_) (fun j a b => hd j (by omega) b)
    by_cases e : v.2.1 i 0 = 0
    · rw [if_pos e]
      have h9 := hd i (by omega) (by omega)
      unfold tmHold at h9
      rw [if_neg (by rw [e]; decide), if_pos e] at h9
      exact hm _ (nm_lt hv hn h (by omega) (by rw [e]; decide)).1 h9
    · rw [if_neg e]; exact hiOk_0 σ
/-- the THING x of the row, and what the first ARG is then -/
theorem rng_val {a : Int32} {θ : Nat → Option Nat} {x : Nat} (ha : okA nt a) (hn : nt ≤ 10) (hθ : okTh nt θ) (hx : x ∈ rng a θ nt) : x < 10 ∧ okTh nt (bndS a θ x) ∧ ∀ τ, extT (bndS a θ x) τ → extT θ τ ∧ thT a τ = x := by
  unfold rng at hx
  cases e : frS a θ with
  | none =>
    rw [e] at hx
    have hx := List.mem_singleton.mp hx
    subst hx
    rw [bndS_none e]
    exact ⟨thO_lt ha hθ hn, hθ, fun τ h => ⟨h, (th_ext ha hn h (frS_no (nt := nt) e)).symm⟩⟩
  | some s =>
    rw [e] at hx
    have hx : x < nt := List.mem_range.mp hx
    obtain ⟨h1, h2, h3⟩ := frS_spec ha hn e
    rw [bndS_some e]
    refine ⟨by omega, okTh_up hθ hx, fun τ h => ⟨fun k t hk q => h k t hk ?_, ?_⟩⟩
    · simp only [va_up]
      rw [if_neg (fun e2 => by rw [e2, h3] at q; cases q)]
      exact q
    · rw [h2, thT_sg h1]
      exact h s x h1 (by simp [va_up])
end FIRE
