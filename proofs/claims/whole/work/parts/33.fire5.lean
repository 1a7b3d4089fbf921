/-! firing a RULE: first THINGS, all TERMS -/
section FIRE5
variable {v : RV} {nt : Nat} {cs : Bool} {Inv : JS → Prop}
theorem ahead_ext {σ : JS} {θ θ' : Nat → Option Nat} {i : Nat} {high : Int32} (h : ∀ τ, extT θ' τ → extT θ τ) (ha : ahead v σ θ i high) : ahead v σ θ' i high := fun j hj τ q => ha j hj τ (h τ q)
theorem bnd_free {a : Int32} {θ : Nat → Option Nat} {x : Nat} (ha : okA nt a) (hn : nt ≤ 10) : ∀ s, s < 3 → a = nI (100 + s) → bndS a θ x s ≠ none := by
  intro s hs e
  subst e
  cases h : θ s with
  | none =>
    have e : frS (nI (100 + s)) θ = some s := by rw [frS_sg hs, if_pos h]
    rw [bndS_some e]
    simp [va_up]
  | some t =>
    have e : frS (nI (100 + s)) θ = none := by rw [frS_sg hs, if_neg (by rw [h]; exact fun q => by cases q)]
    rw [bndS_none e, h]
    exact fun q => by cases q
theorem w1_main (hv : okRl nt v) (hn : nt ≤ 10) (hI : invOk v nt cs Inv) {i n : Nat} {high : Int32} {θ : Nat → Option Nat} {go : Int32 → (Nat → Option Nat) → JS → JS} (hi : i < v.2.2.1) (hin : i + (n + 1) = v.2.2.1) (hNot : ∀ j, j < v.2.2.1 → v.2.1 j 0 = 1 → (v.2.1 j 1).toNatClampNeg ≠ hkV v)
    (hθ : okTh nt θ) (hb : bnTo v θ i)
    (hgo : ∀ hi9 θ2 ρ, Inv ρ → okTh nt θ2 → bnTo v θ2 (i + 1) → hiOk ρ hi9 → ahead v ρ θ2 (i + 1) hi9 → wkR v nt cs Inv ρ (go hi9 θ2 ρ) (ledI v nt θ2 ρ (i + 1) n hi9 (fun _ => True))) :
    ∀ (l : List Nat) (σ : JS), (∀ y ∈ l, y ∈ rng (v.2.1 i 2) θ nt) → Inv σ → hiOk σ high → ahead v σ θ i high → wkR v nt cs Inv σ (w1P (v.2.1 i) nt high θ go l σ) (ledI v nt θ σ i (n + 1) high (fun τ => thT (v.2.1 i 2) τ ∈ l)) := by
  intro l
  induction l with
  | nil =>
    intro σ _ h0 _ _
    exact ⟨h0, grow_rf (hI.1 σ h0).1 (hI.1 σ h0).2.1, fun _ => rfl, fun τ B h => absurd h.2.2.2.1 (by simp)⟩
  | cons x xs ih =>
    intro σ hl h0 hh ha
    have hw := (hI.1 σ h0).1
    have he := (hI.1 σ h0).2.1
    have hmem := (hI.1 σ h0).2.2
    have hok := hv.2.1 i hi
    obtain ⟨hx, hθ2, hval⟩ := rng_val hok.2.2.1 hn hθ (hl x List.mem_cons_self)
    simp only [w1P]
    rw [if_neg (by rw [he]; decide)]
    by_cases hs : secP (v.2.1 i) x σ.1 = 0
    · rw [if_pos hs]
      obtain ⟨a1, a2, a3, a4⟩ := ih σ (fun z hz => hl z (List.mem_cons_of_mem _ hz)) h0 hh ha
      refine ⟨a1, a2, a3, fun τ B h => a4 τ B ⟨h.1, h.2.1, h.2.2.1, ?_, h.2.2.2.2⟩⟩
      rcases List.mem_cons.mp h.2.2.2.1 with q | q
      · have hy : thT (v.2.1 i 3) τ < 10 := thT_lt hok.2.2.2 hn (fun s hs e => by
          have := h.1 s hs ⟨i, hi, Or.inr e⟩
          omega)
        have h9 := (bit_hold (f := σ.1) q rfl).mp (h.2.2.1 i (Nat.le_refl _) hi)
        have hb9 := tm_bit (nt := nt) hok hw hx hy
        have : ¬ secP (v.2.1 i) x σ.1 = 0 := sec_ne (by
          rw [hb9]
          unfold bitB at h9
          rw [h9]
          decide) hy
        exact absurd hs this
      · exact q
    · rw [if_neg hs]
      have hb2 : ∀ s, s < 3 → v.2.1 i 2 = nI (100 + s) → bndS (v.2.1 i 2) θ x s ≠ none := bnd_free hok.2.2.1 hn
      have ha2 : ahead v σ (bndS (v.2.1 i 2) θ x) i high := ahead_ext (fun τ q => (hval τ q).1) ha
      obtain ⟨g1, g2, g3, g4⟩ := w2_main (fit := secP (v.2.1 i) x σ.1) hv hn hI hi hin hNot hx hθ2 (bnTo_b hb) hb2 (fun τ q => (hval τ q).2) hgo (rng (v.2.1 i 3) (bndS (v.2.1 i 2) θ x) nt) σ (fun _ h => h) h0 (fun t0 y hy => by
        have h9 := tm_bit (nt := nt) hok hw hx hy
        rw [if_neg t0] at h9
        exact h9) hh ha2
      generalize hρ : w2P (v.2.1 i) x (secP (v.2.1 i) x σ.1) high (bndS (v.2.1 i 2) θ x) go (rng (v.2.1 i 3) (bndS (v.2.1 i 2) θ x) nt) σ = ρ at g1 g2 g3 g4 ⊢
      have hmem2 := (hI.1 ρ g1).2.2
      obtain ⟨a1, a2, a3, a4⟩ := ih ρ (fun z hz => hl z (List.mem_cons_of_mem _ hz)) g1 (hiOk_mono hh g2) (ahead_grow hv hn (by omega) hθ hb hNot (fun c k => by rw [g3 c]) g2 ha)
      refine ⟨a1, g2.tr a2, fun c => (a3 c).trans (g3 c), fun τ B h => ?_⟩
      obtain ⟨h1, h2, h3, h4, rfl⟩ := h
      have hN := nmH_lt hv hn h1
      by_cases q : thT (v.2.1 i 2) τ = x
      · have he2 : extT (bndS (v.2.1 i 2) θ x) τ := by rw [← q]; exact bnd_ext hok.2.2.1 hn h2
        have c1 := g4 τ _ ⟨h1, he2, h3, rng_mem hok.2.2.2 hn he2 (fun s hs e => h1 s hs ⟨i, hi, Or.inr e⟩), rfl⟩
        exact cp_grow hN a2 c1
      · have q2 : thT (v.2.1 i 2) τ ∈ xs := (List.mem_cons.mp h4).resolve_left q
        have hh3 : ∀ j, i ≤ j → j < v.2.2.1 → tmHold (v.2.1 j) τ (rowS ρ.1) := fun j a b => (hold_grow hv hn h1 g2 b (hNot j b) (h3 j a b)).1
        have c1 := a4 τ _ ⟨h1, h2, hh3, q2, rfl⟩
        refine cp_mono c1 (bdM_mono _ _ (Int32.le_refl _) (fun j a b t0 => ?_)) (bdM_ok hv hn h1 hmem2 _ _ hin (hiOk_mono hh g2) hh3).1 (hiOk_1000 (bdM_ok hv hn h1 hmem _ _ hin hh h3))
        cases cs with
        | true => exact (hold_grow hv hn h1 g2 (by omega) (hNot j (by omega)) (h3 j a (by omega))).2 rfl t0
        | false => rw [g3 rfl]; exact Int32.le_refl _
theorem tkP_cs {n : Nat} {s : Int32} {σ : JS} : (tkP false n s σ).2.1 = σ.2.1 := by
  unfold tkP
  split
  · rfl
  · rfl
theorem wk_main (hv : okRl nt v) (hn : nt ≤ 10) (hI : invOk v nt cs Inv) {want : Int32} (hNot : ∀ j, j < v.2.2.1 → v.2.1 j 0 = 1 → (v.2.1 j 1).toNatClampNeg ≠ hkV v) :
    ∀ (n i : Nat) (high : Int32) (θ : Nat → Option Nat) (σ : JS), i + n = v.2.2.1 → Inv σ → okTh nt θ → bnTo v θ i → hiOk σ high → ahead v σ θ i high → wkR v nt cs Inv σ (wkP v nt cs 0 want n i high θ σ) (ledI v nt θ σ i n high (fun _ => True)) := by
  intro n
  induction n with
  | zero =>
    intro i high θ σ hi h0 hθ hb hh ha
    have hi : i = v.2.2.1 := by omega
    subst hi
    obtain ⟨a1, a2, a3⟩ := wk_0 (want := want) hv hn hI h0 hθ hb hh ha
    refine ⟨a1, a2, fun c => ?_, fun τ B h => ?_⟩
    · subst c
      show (arrP v false 0 want high θ (rchP v.2.2.1 σ)).2.1 = σ.2.1
      rw [arrP, if_pos rfl, tkP_cs]
      rfl
    · obtain ⟨h1, h2, h3, -, rfl⟩ := h
      exact a3 τ h1 h2 h3
  | succ n ih =>
    intro i high θ σ hi h0 hθ hb hh ha
    have hlt : i < v.2.2.1 := by omega
    obtain ⟨a1, a2, a3, a4⟩ := w1_main hv hn hI (go := fun hi τ ρ => wkP v nt cs 0 want n (i + 1) hi τ ρ) hlt hi hNot hθ hb (fun hi9 θ2 ρ b1 b2 b3 b4 b5 => ih (i + 1) hi9 θ2 ρ (by omega) b1 b2 b3 b4 b5) (rng (v.2.1 i 2) θ nt) (rchP i σ) (fun _ h => h) (hI.2.1 σ i h0) (high := high) hh ha
    refine ⟨a1, a2, a3, fun τ B h => a4 τ B ?_⟩
    obtain ⟨h1, h2, h3, -, rfl⟩ := h
    exact ⟨h1, h2, h3, rng_mem (hv.2.1 i hlt).2.2.1 hn h2 (fun s hs e => h1 s hs ⟨i, hlt, Or.inl e⟩), rfl⟩
/-- a RULE fired: Inv is kept, more is there, and all that its TERMS lead to -/
theorem fire_main (hv : okRl nt v) (hn : nt ≤ 10) (hI : invOk v nt cs Inv) {want : Int32} (hNot : ∀ j, j < v.2.2.1 → v.2.1 j 0 = 1 → (v.2.1 j 1).toNatClampNeg ≠ hkV v) {θ : Nat → Option Nat} {σ : JS} (h0 : Inv σ) (hθ : ∀ s, s < 3 → θ s = none) :
    wkR v nt cs Inv σ (wkP v nt cs 0 want v.2.2.1 0 0 θ σ) (fun τ B => okT v nt τ ∧ (∀ j, j < v.2.2.1 → tmHold (v.2.1 j) τ (rowS σ.1)) ∧ B = bdM v τ σ.2.1 v.2.2.1 0 0) := by
  obtain ⟨a1, a2, a3, a4⟩ := wk_main (want := want) hv hn hI hNot v.2.2.1 0 0 θ σ (by omega) h0 (fun s t hs e => by rw [hθ s hs] at e; cases e) (fun j hj => absurd hj (by omega)) (hiOk_0 σ) (fun j hj => absurd hj (by omega))
  refine ⟨a1, a2, a3, fun τ B h => a4 τ B ⟨h.1, (fun s t hs e => by rw [hθ s hs] at e; cases e), fun j _ hj => h.2.1 j hj, trivial, h.2.2⟩⟩
end FIRE5
