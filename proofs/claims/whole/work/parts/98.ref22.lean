/-! the reference: goes, the mathematics of one step -/
def stθ (a : Int32) (x : Nat) (θ : Nat → Option Nat) : Nat → Option Nat := if a < 100 then θ else fun s => if s = a.toNatClampNeg - 100 then some x else θ s
theorem stθ_lt {a : Int32} {x : Nat} {θ : Nat → Option Nat} (h : a < 100) : stθ a x θ = θ := if_pos h
theorem stθ_sg {s x : Nat} {θ : Nat → Option Nat} (hs : s < 3) : stθ (nI (100 + s)) x θ = fun k => if k = s then some x else θ k := by unfold stθ; rw [if_neg (sg_not hs), sg_cl hs]
theorem fitP_sg {s x : Nat} {θ : Nat → Option Nat} (hs : s < 3) : fitP (nI (100 + s)) x θ ↔ (θ s = none ∨ θ s = some x) := by unfold fitP; rw [if_neg (sg_not hs), sg_cl hs]
theorem th_lt100 {t : Nat} (ht : t < 10) : nI t < 100 := by rw [show (100 : Int32) = nI 100 from rfl, nI_ltI (by omega) (by omega)]; omega
theorem fitP_th {t x : Nat} {θ : Nat → Option Nat} (ht : t < 10) (hx : x < 10) : fitP (nI t) x θ ↔ t = x := by
  unfold fitP
  rw [if_pos (th_lt100 ht), if_neg (nI_m1 (by omega)), nI_eq (by omega) (by omega)]
theorem fitP_m1 {x : Nat} {θ : Nat → Option Nat} : fitP (-1) x θ ↔ x = 0 := by unfold fitP; rw [if_pos (by decide), if_pos rfl]
theorem fit_ext {nt : Nat} {a : Int32} {x : Nat} {θ : Nat → Option Nat} {τ : Nat → Nat} (ha : okA nt a) (hn : nt ≤ 10) (hx : x < 10) (he : extT θ τ) (h : thT a τ = x) : fitP a x θ := by
  rcases ha with rfl | ⟨t, ht, rfl⟩ | ⟨s, hs, rfl⟩
  · rw [fitP_m1, ← h]; rfl
  · rw [fitP_th (by omega) hx, ← h, thT, thO_th (by omega)]
  · rw [fitP_sg hs]
    rw [thT_sg hs] at h
    cases e : θ s with
    | none => exact Or.inl rfl
    | some t => rw [← h, he s t hs e]; exact Or.inr rfl
theorem fit_st {nt : Nat} {a : Int32} {x : Nat} {θ : Nat → Option Nat} (ha : okA nt a) (hn : nt ≤ 10) (hx : x < 10) (hf : fitP a x θ) : (∀ s t, s < 3 → θ s = some t → stθ a x θ s = some t) ∧ thO a (stθ a x θ) = x ∧ (∀ τ, extT θ τ → thT a τ = x → extT (stθ a x θ) τ) ∧ ∀ s, s < 3 → a = nI (100 + s) → stθ a x θ s ≠ none := by
  rcases ha with rfl | ⟨t, ht, rfl⟩ | ⟨s, hs, rfl⟩
  · rw [stθ_lt (by decide)]
    refine ⟨fun _ _ _ e => e, (fitP_m1.mp hf).symm, fun _ he _ => he, fun s hs e => absurd e.symm (sg_ne hs)⟩
  · rw [stθ_lt (th_lt100 (by omega))]
    refine ⟨fun _ _ _ e => e, ?_, fun _ he _ => he, fun s hs e => absurd e ?_⟩
    · rw [thO_th (by omega)]; exact (fitP_th (by omega) hx).mp hf
    · rw [nI_eq (by omega) (by omega)]; omega
  · rw [stθ_sg hs]
    have hf := (fitP_sg hs).mp hf
    refine ⟨fun k t hk e => ?_, ?_, fun τ he h k t hk e => ?_, fun k hk e => ?_⟩
    · show (if k = s then some x else θ k) = some t
      by_cases z : k = s
      · rw [if_pos z]; rw [z] at e; rcases hf with y | y <;> rw [y] at e <;> cases e; rfl
      · rw [if_neg z]; exact e
    · rw [thO_sg hs]; show ((if s = s then some x else θ s) : Option Nat).getD 0 = x; rw [if_pos rfl]; rfl
    · have e : (if k = s then some x else θ k) = some t := e
      by_cases z : k = s
      · rw [if_pos z] at e; injection e with e; rw [z, ← e]; rw [thT_sg hs] at h; exact h
      · rw [if_neg z] at e; exact he k t hk e
    · have : s = k := by
        rw [nI_eq (by omega) (by omega)] at e; omega
      rw [this]; show (if k = k then some x else θ k) ≠ none; rw [if_pos rfl]; intro y; cases y
theorem stθ_ok {nt : Nat} {a : Int32} {x : Nat} {θ : Nat → Option Nat} (hθ : okTh nt θ) (hx : ¬ a < 100 → x < nt) : okTh nt (stθ a x θ) := fun s t hs e => by
  unfold stθ at e
  by_cases c : a < 100
  · rw [if_pos c] at e; exact hθ s t hs e
  · rw [if_neg c] at e
    have e : (if s = a.toNatClampNeg - 100 then some x else θ s) = some t := e
    by_cases z : s = a.toNatClampNeg - 100
    · rw [if_pos z] at e; cases e; exact hx c
    · rw [if_neg z] at e; exact hθ s t hs e
theorem fit_2 {nt : Nat} {a b : Int32} {x y : Nat} {θ : Nat → Option Nat} (ha : okA nt a) (hb : okA nt b) (hn : nt ≤ 10) (hy : y < 10) (hf : fitP b y θ) (hxy : ∀ s, s < 3 → a = nI (100 + s) → b = nI (100 + s) → x = y) : fitP b y (stθ a x θ) := by
  rcases hb with rfl | ⟨t, ht, rfl⟩ | ⟨s, hs, rfl⟩
  · rw [fitP_m1] at hf ⊢; exact hf
  · rw [fitP_th (by omega) hy] at hf ⊢; exact hf
  · rw [fitP_sg hs] at hf ⊢
    rcases ha with rfl | ⟨t, ht, rfl⟩ | ⟨r, hr, rfl⟩
    · rw [stθ_lt (by decide)]; exact hf
    · rw [stθ_lt (th_lt100 (by omega))]; exact hf
    · rw [stθ_sg hr]
      show (if s = r then some x else θ s) = none ∨ (if s = r then some x else θ s) = some y
      by_cases z : s = r
      · rw [if_pos z, hxy s hs (by rw [z]) rfl]; exact Or.inr rfl
      · rw [if_neg z]; exact hf
/-- an ATOM's number fits a TERM -/
def fitN (t : Nat → Int32) (n : Nat) (θ : Nat → Option Nat) : Prop := (fitP (t 2) (n / 10 % 10) θ ∧ fitP (t 3) (n % 10) θ) ∧ ∀ s, s < 3 → t 2 = nI (100 + s) → t 3 = nI (100 + s) → n / 10 % 10 = n % 10
theorem nm_dig {nt : Nat} {t : Nat → Int32} {θ : Nat → Option Nat} (h2 : okA nt (t 2)) (h3 : okA nt (t 3)) (hθ : okTh nt θ) (hn : nt ≤ 10) {n : Nat} (e : nmP t θ = n) : n / 100 = (t 1).toNatClampNeg ∧ thO (t 2) θ = n / 10 % 10 ∧ thO (t 3) θ = n % 10 := by
  have a := thO_lt h2 hθ hn
  have b := thO_lt h3 hθ hn
  unfold nmP at e
  omega
theorem fitN_of {nt : Nat} {t : Nat → Int32} {θ : Nat → Option Nat} {τ : Nat → Nat} {n : Nat} (h2 : okA nt (t 2)) (h3 : okA nt (t 3)) (hn : nt ≤ 10) (hτ : ∀ s, s < 3 → sgIn t s → τ s < nt) (he : extT θ τ) (e : nmT t τ = n) : fitN t n θ := by
  have a := thT_lt (τ := τ) h2 hn (fun s hs z => Nat.lt_of_lt_of_le (hτ s hs (Or.inl z)) hn)
  have b := thT_lt (τ := τ) h3 hn (fun s hs z => Nat.lt_of_lt_of_le (hτ s hs (Or.inr z)) hn)
  have d : thT (t 2) τ = n / 10 % 10 ∧ thT (t 3) τ = n % 10 := by
    have e : ((t 1).toNatClampNeg * 10 + thT (t 2) τ) * 10 + thT (t 3) τ = n := e
    omega
  refine ⟨⟨fit_ext h2 hn (by omega) he d.1, fit_ext h3 hn (by omega) he d.2⟩, fun s hs e2 e3 => ?_⟩
  rw [← d.1, ← d.2, e2, e3]
theorem fitN_go {nt : Nat} {t : Nat → Int32} {θ : Nat → Option Nat} {n : Nat} (h2 : okA nt (t 2)) (h3 : okA nt (t 3)) (hn : nt ≤ 10) (hθ : okTh nt θ) (hk : n / 100 = (t 1).toNatClampNeg) (hx : ¬ t 2 < 100 → n / 10 % 10 < nt) (hy : ¬ t 3 < 100 → n % 10 < nt) (h : fitN t n θ) {θ2 : Nat → Option Nat} (e2 : θ2 = stθ (t 3) (n % 10) (stθ (t 2) (n / 10 % 10) θ)) : (∀ s t, s < 3 → θ s = some t → θ2 s = some t) ∧ nmP t θ2 = n ∧ (∀ τ, (∀ s, s < 3 → sgIn t s → τ s < nt) → extT θ τ → nmT t τ = n → extT θ2 τ) ∧ okTh nt θ2 ∧ ∀ s, s < 3 → sgIn t s → θ2 s ≠ none := by
  obtain ⟨⟨f2, f3⟩, fs⟩ := h
  obtain ⟨a1, a2, a3, a4⟩ := fit_st h2 hn (by omega) f2
  obtain ⟨b1, b2, b3, b4⟩ := fit_st h3 hn (by omega) (fit_2 h2 h3 hn (by omega) f3 fs)
  rw [← e2] at b1 b2 b3 b4
  have hok : okTh nt θ2 := by rw [e2]; exact stθ_ok (stθ_ok hθ hx) hy
  have ex : extT (stθ (t 2) (n / 10 % 10) θ) (tOf θ2) := fun s t hs e => ext_tOf θ2 s t hs (b1 s t hs e)
  have hth : thO (t 2) θ2 = n / 10 % 10 := by
    rw [← a2, th_ext h2 hn ex a4, ← th_ext h2 hn (ext_tOf θ2) (fun s hs e => ?_)]
    cases z : stθ (t 2) (n / 10 % 10) θ s with
    | none => exact absurd z (a4 s hs e)
    | some u => rw [b1 s u hs z]; intro y; cases y
  refine ⟨fun s t hs e => b1 s t hs (a1 s t hs e), ?_, fun τ hτ he e => ?_, hok, fun s hs hsg => ?_⟩
  · unfold nmP; rw [hth, b2]; omega
  · have a := thT_lt (τ := τ) h2 hn (fun s hs z => Nat.lt_of_lt_of_le (hτ s hs (Or.inl z)) hn)
    have b := thT_lt (τ := τ) h3 hn (fun s hs z => Nat.lt_of_lt_of_le (hτ s hs (Or.inr z)) hn)
    have d : thT (t 2) τ = n / 10 % 10 ∧ thT (t 3) τ = n % 10 := by
      have e : ((t 1).toNatClampNeg * 10 + thT (t 2) τ) * 10 + thT (t 3) τ = n := e
      omega
    exact b3 τ (a3 τ he d.1) d.2
  · rcases hsg with z | z
    · cases y : stθ (t 2) (n / 10 % 10) θ s with
      | none => exact absurd y (a4 s hs z)
      | some u => rw [b1 s u hs y]; intro y; cases y
    · exact b4 s hs z
