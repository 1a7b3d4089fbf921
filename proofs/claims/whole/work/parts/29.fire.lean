/-! what firing a RULE does: the mathematics of wkP with aim 0 -/
theorem b10_not : ∀ m, m < 1024 → ∀ j, j < 10 → (((nI m ^^^ (-1)) >>> (nI j &&& 31)) &&& 1) = bi (!m.testBit j) := by decide +kernel
theorem b10_un : ∀ x, x < 10 → ∀ j, j < 10 → (((((1 : Int32) <<< (nI x &&& 31)) ^^^ (-1)) >>> (nI j &&& 31)) &&& 1) = bi (decide (x ≠ j)) := by decide +kernel
/-- THINGS for all SIGNS -/
abbrev thT (a : Int32) (τ : Nat → Nat) : Nat := thO a (fun s => some (τ s))
abbrev nmT (t : Nat → Int32) (τ : Nat → Nat) : Nat := nmP t (fun s => some (τ s))
def tmHold (t : Nat → Int32) (τ : Nat → Nat) (S : Nat → Bool) : Prop := if t 0 = 2 then thT (t 2) τ ≠ thT (t 3) τ else if t 0 = 0 then S (nmT t τ) = true else S (nmT t τ) = false
def extT (θ : Nat → Option Nat) (τ : Nat → Nat) : Prop := ∀ s t, s < 3 → θ s = some t → τ s = t
/-- the THINGS are there, for the SIGNS that stand in the TERMS -/
def okT (v : RV) (nt : Nat) (τ : Nat → Nat) : Prop := ∀ s, s < 3 → (∃ j, j < v.2.2.1 ∧ sgIn (v.2.1 j) s) → τ s < nt
theorem th_ext {nt : Nat} {a : Int32} {θ : Nat → Option Nat} {τ : Nat → Nat} (ha : okA nt a) (hn : nt ≤ 10) (he : extT θ τ) (hb : ∀ s, s < 3 → a = nI (100 + s) → θ s ≠ none) : thO a θ = thT a τ := by
  rcases ha with rfl | ⟨t, ht, rfl⟩ | ⟨s, hs, rfl⟩
  · rfl
  · rw [thO_th (by omega), thT, thO_th (by omega)]
  · rw [thO_sg hs, thT, thO_sg hs]
    cases e : θ s with
    | none => exact absurd e (hb s hs rfl)
    | some t => exact (he s t hs e).symm
theorem thT_sg {s : Nat} (hs : s < 3) (τ : Nat → Nat) : thT (nI (100 + s)) τ = τ s := by rw [thT, thO_sg hs]; rfl
theorem thT_lt {nt : Nat} {a : Int32} {τ : Nat → Nat} (ha : okA nt a) (hn : nt ≤ 10) (h : ∀ s, s < 3 → a = nI (100 + s) → τ s < 10) : thT a τ < 10 := by
  rcases ha with rfl | ⟨t, ht, rfl⟩ | ⟨s, hs, rfl⟩
  · show 0 < 10; omega
  · rw [thT, thO_th (by omega)]; omega
  · rw [thT_sg hs]; exact h s hs rfl
/-- the wanted THING is in the row that is walked -/
theorem rng_mem {nt : Nat} {a : Int32} {θ : Nat → Option Nat} {τ : Nat → Nat} (ha : okA nt a) (hn : nt ≤ 10) (he : extT θ τ) (ht : ∀ s, s < 3 → a = nI (100 + s) → τ s < nt) : thT a τ ∈ rng a θ nt := by
  unfold rng
  cases e : frS a θ with
  | none => exact List.mem_singleton.mpr (th_ext ha hn he (frS_no (nt := nt) e)).symm
  | some s =>
    obtain ⟨h1, h2, h3⟩ := frS_spec ha hn e
    subst h2
    rw [thT_sg h1]
    exact List.mem_range.mpr (ht s h1 rfl)
theorem bnd_ext {nt : Nat} {a : Int32} {θ : Nat → Option Nat} {τ : Nat → Nat} (ha : okA nt a) (hn : nt ≤ 10) (he : extT θ τ) : extT (bndS a θ (thT a τ)) τ := by
  cases e : frS a θ with
  | none => rw [bndS_none e]; exact he
  | some s =>
    obtain ⟨h1, h2, h3⟩ := frS_spec ha hn e
    rw [bndS_some e]
    intro k t hk q
    simp only [va_up] at q
    split at q
    next e2 => subst e2; cases q; rw [h2, thT_sg h1]
    next => exact he k t hk q
theorem tm_bit {nt : Nat} {t : Nat → Int32} {f : Nat → Int32} {x y : Nat} (ht : okTm nt t) (hw : wfR f) (hx : x < 10) (hy : y < 10) : (((if t 0 = 0 then f ((t 1).toNatClampNeg * 10 + x) else secP t x f) >>> (nI y &&& 31)) &&& 1) = bi (if t 0 = 2 then decide (x ≠ y) else if t 0 = 0 then rowS f (((t 1).toNatClampNeg * 10 + x) * 10 + y) else !rowS f (((t 1).toNatClampNeg * 10 + x) * 10 + y)) := by
  by_cases h0 : t 0 = 0
  · have hk := (ht.2.1 (by rw [h0]; decide)).2
    rw [if_pos h0, if_neg (by rw [h0]; decide), if_pos h0, isRows_bit hw (by omega) hy]
    congr 2
    omega
  · rw [if_neg h0, if_neg h0]
    unfold secP
    by_cases h2 : t 0 = 2
    · rw [if_pos h2, if_pos h2]
      exact b10_un x hx y hy
    · have hk := (ht.2.1 h2).2
      rw [if_neg h2, if_neg h2, if_neg h0]
      obtain ⟨m, m1, m2, m3⟩ := hw ((t 1).toNatClampNeg * 10 + x) (by omega)
      rw [m2, b10_not m m1 y hy, m3 y hy]
      congr 3
      omega
theorem sec_ne {t : Nat → Int32} {f : Nat → Int32} {x y : Nat} (h : ¬ (((if t 0 = 0 then f ((t 1).toNatClampNeg * 10 + x) else secP t x f) >>> (nI y &&& 31)) &&& 1) = 0) (hy : y < 10) : ¬ secP t x f = 0 := by
  intro q
  apply h
  have e : (if t 0 = 0 then f ((t 1).toNatClampNeg * 10 + x) else secP t x f) = 0 := by
    by_cases h0 : t 0 = 0
    · rw [if_pos h0]
      unfold secP at q
      rw [if_neg (by rw [h0]; decide), if_pos h0] at q
      exact q
    · rw [if_neg h0]; exact q
  rw [e]
  have : ∀ y, y < 10 → (((0 : Int32) >>> (nI y &&& 31)) &&& 1) = 0 := by decide +kernel
  exact this y hy
/-- more ATOMS, no more STEPS; only of the KIND k; never ended -/
def grow (cs : Bool) (k : Nat) (σ ρ : JS) : Prop := wfR ρ.1 ∧ ρ.2.2.2.2.2.1 = false ∧ (∀ n, n < 1000 → rowS σ.1 n = true → rowS ρ.1 n = true ∧ (cs = true → ρ.2.1 n ≤ σ.2.1 n)) ∧ (∀ n, n < 1000 → n / 100 ≠ k → rowS ρ.1 n = rowS σ.1 n ∧ ρ.2.1 n = σ.2.1 n)
theorem grow_rf {cs : Bool} {k : Nat} {σ : JS} (hw : wfR σ.1) (he : σ.2.2.2.2.2.1 = false) : grow cs k σ σ := ⟨hw, he, fun _ _ h => ⟨h, fun _ => Int32.le_refl _⟩, fun _ _ _ => ⟨rfl, rfl⟩⟩
theorem grow.tr {cs : Bool} {k : Nat} {a b c : JS} (h1 : grow cs k a b) (h2 : grow cs k b c) : grow cs k a c :=
  ⟨h2.1, h2.2.1, fun n hn h => ⟨(h2.2.2.1 n hn (h1.2.2.1 n hn h).1).1, fun q => Int32.le_trans ((h2.2.2.1 n hn (h1.2.2.1 n hn h).1).2 q) ((h1.2.2.1 n hn h).2 q)⟩, fun n hn h => ⟨(h2.2.2.2 n hn h).1.trans (h1.2.2.2 n hn h).1, (h2.2.2.2 n hn h).2.trans (h1.2.2.2 n hn h).2⟩⟩
theorem tkP_spec {cs : Bool} {n : Nat} {s : Int32} {σ : JS} (hn : n < 1000) (hw : wfR σ.1) (he : σ.2.2.2.2.2.1 = false) : grow cs (n / 100) σ (tkP cs n s σ) ∧ rowS (tkP cs n s σ).1 n = true ∧ (cs = true → (tkP cs n s σ).2.1 n ≤ s) := by
  unfold tkP
  split
  next h => exact ⟨grow_rf hw he, h.1, h.2⟩
  next h =>
    by_cases hr : rowS σ.1 n = true
    · have hcs : cs = true ∧ ¬ σ.2.1 n ≤ s := by
        cases cs with
        | false => exact absurd ⟨hr, fun q => by cases q⟩ h
        | true => exact ⟨rfl, fun q => h ⟨hr, fun _ => q⟩⟩
      obtain ⟨rfl, hs⟩ := hcs
      simp only [hr, if_true]
      refine ⟨⟨hw, he, fun k hk q => ⟨q, fun _ => ?_⟩, fun k hk q => ⟨rfl, ?_⟩⟩, trivial, fun _ => ?_⟩
      · show upd σ.2.1 n s k ≤ σ.2.1 k
        simp only [upd]
        split
        next e => rw [e]; exact Int32.le_of_lt (Int32.not_le.mp hs)
        next => exact Int32.le_refl _
      · show upd σ.2.1 n s k = σ.2.1 k
        simp only [upd]
        rw [if_neg (fun e => q (by rw [e]))]
      · show upd σ.2.1 n s n ≤ s
        simp only [upd, if_true]
        exact Int32.le_refl _
    · have hr : rowS σ.1 n = false := by simpa using hr
      simp only [hr]
      have hrow : ∀ k, k < 1000 → rowS (fRow σ.1 n) k = flipS (rowS σ.1) n k := fun k hk => rowS_row hw hn hk
      refine ⟨⟨wfR_row hw hn, he, fun k hk q => ⟨?_, fun c => ?_⟩, fun k hk q => ⟨?_, ?_⟩⟩, ?_, fun c => ?_⟩
      · show rowS (fRow σ.1 n) k = true
        rw [hrow k hk, flipS]
        split
        next e => rw [e, hr] at q; cases q
        next => exact q
      · subst c
        show upd σ.2.1 n s k ≤ σ.2.1 k
        simp only [upd]
        split
        next e => rw [e, hr] at q; cases q
        next => exact Int32.le_refl _
      · show rowS (fRow σ.1 n) k = rowS σ.1 k
        rw [hrow k hk, flipS, if_neg (fun e => q (by rw [e]))]
      · show (if cs = true then upd σ.2.1 n s else σ.2.1) k = σ.2.1 k
        split
        · simp only [upd]; rw [if_neg (fun e => q (by rw [e]))]
        · rfl
      · show rowS (fRow σ.1 n) n = true
        rw [hrow n hn, flipS, if_pos rfl, hr]; rfl
      · subst c
        show upd σ.2.1 n s n ≤ s
        simp only [upd, if_true]
        exact Int32.le_refl _
