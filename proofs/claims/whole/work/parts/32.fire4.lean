/-! firing a RULE: the two rows of THINGS -/
section FIRE4
variable {v : RV} {nt : Nat} {cs : Bool} {Inv : JS → Prop}
def cpOk (v : RV) (cs : Bool) (τ : Nat → Nat) (ρ : JS) (B : Int32) : Prop := rowS ρ.1 (nmT v.1 τ) = true ∧ (cs = true → ρ.2.1 (nmT v.1 τ) ≤ B + 1)
/-- Inv, growth, STEPS that nobody counts, and what is led to -/
def wkR (v : RV) (nt : Nat) (cs : Bool) (Inv : JS → Prop) (σ ρ : JS) (led : (Nat → Nat) → Int32 → Prop) : Prop :=
  Inv ρ ∧ grow cs (hkV v) σ ρ ∧ (cs = false → ρ.2.1 = σ.2.1) ∧ ∀ τ B, led τ B → cpOk v cs τ ρ B
theorem nmH_lt (hv : okRl nt v) (hn : nt ≤ 10) {τ : Nat → Nat} (h : okT v nt τ) : nmT v.1 τ < 1000 := by
  have h9 := nmT_k (t := v.1) (τ := τ) hv.2.2.2.1 hv.2.2.2.2.1 hn (fun s hs q => by
    have := h s hs (hv.2.2.2.2.2 s hs q)
    omega)
  have := hv.2.2.1.2
  omega
theorem cp_grow {k : Nat} {τ : Nat → Nat} {ρ ρ' : JS} {B : Int32} (hl : nmT v.1 τ < 1000) (hg : grow cs k ρ ρ') (h : cpOk v cs τ ρ B) : cpOk v cs τ ρ' B :=
  ⟨(hg.2.2.1 _ hl h.1).1, fun c => Int32.le_trans ((hg.2.2.1 _ hl h.1).2 c) (h.2 c)⟩
theorem cp_mono {τ : Nat → Nat} {ρ : JS} {B B' : Int32} (h : cpOk v cs τ ρ B) (h1 : B ≤ B') (h0 : 0 ≤ B) (hb : B' ≤ nI 1000) : cpOk v cs τ ρ B' := ⟨h.1, fun c => Int32.le_trans (h.2 c) (add1_mono h1 h0 hb)⟩
def bitB (t : Nat → Int32) (x y : Nat) (f : Nat → Int32) : Bool := if t 0 = 2 then decide (x ≠ y) else if t 0 = 0 then rowS f (((t 1).toNatClampNeg * 10 + x) * 10 + y) else !rowS f (((t 1).toNatClampNeg * 10 + x) * 10 + y)
theorem bit_hold {t : Nat → Int32} {x y : Nat} {f : Nat → Int32} {τ : Nat → Nat} (h2 : thT (t 2) τ = x) (h3 : thT (t 3) τ = y) : tmHold t τ (rowS f) ↔ bitB t x y f = true := by
  have e : nmT t τ = ((t 1).toNatClampNeg * 10 + x) * 10 + y := by
    show ((t 1).toNatClampNeg * 10 + thT (t 2) τ) * 10 + thT (t 3) τ = _
    rw [h2, h3]
  unfold tmHold bitB
  rw [h2, h3, e]
  split
  · simp
  · split
    · rfl
    · simp
/-- what led means from TERM i on -/
def ledI (v : RV) (nt : Nat) (θ : Nat → Option Nat) (σ : JS) (i n : Nat) (high : Int32) (P9 : (Nat → Nat) → Prop) : (Nat → Nat) → Int32 → Prop := fun τ B => okT v nt τ ∧ extT θ τ ∧ (∀ j, i ≤ j → j < v.2.2.1 → tmHold (v.2.1 j) τ (rowS σ.1)) ∧ P9 τ ∧ B = bdM v τ σ.2.1 n i high
theorem bit_grow {k i x y : Nat} {σ ρ : JS} (hv : okRl nt v) (hi : i < v.2.2.1) (hx : x < 10) (hy : y < 10) (hNot : v.2.1 i 0 = 1 → (v.2.1 i 1).toNatClampNeg ≠ k) (hg : grow cs k σ ρ) (h0 : ¬ v.2.1 i 0 = 0) : bitB (v.2.1 i) x y ρ.1 = bitB (v.2.1 i) x y σ.1 := by
  unfold bitB
  by_cases h2 : v.2.1 i 0 = 2
  · rw [if_pos h2, if_pos h2]
  · have hk := ((hv.2.1 i hi).2.1 h2).2
    have t1 : v.2.1 i 0 = 1 := by
      rcases (hv.2.1 i hi).1 with q | q | q
      · exact absurd q h0
      · exact q
      · exact absurd q h2
    have hne := hNot t1
    rw [if_neg h2, if_neg h2, if_neg h0, if_neg h0, (hg.2.2.2 _ (by omega) (by omega)).1]
theorem w2_main (hv : okRl nt v) (hn : nt ≤ 10) (hI : invOk v nt cs Inv) {i n x : Nat} {high fit : Int32} {θ : Nat → Option Nat} {go : Int32 → (Nat → Option Nat) → JS → JS} (hi : i < v.2.2.1) (hin : i + (n + 1) = v.2.2.1) (hNot : ∀ j, j < v.2.2.1 → v.2.1 j 0 = 1 → (v.2.1 j 1).toNatClampNeg ≠ hkV v)
    (hx : x < 10) (hθ : okTh nt θ) (hb : bnTo v θ i) (hb2 : ∀ s, s < 3 → v.2.1 i 2 = nI (100 + s) → θ s ≠ none) (hxe : ∀ τ, extT θ τ → thT (v.2.1 i 2) τ = x)
    (hgo : ∀ hi9 θ2 ρ, Inv ρ → okTh nt θ2 → bnTo v θ2 (i + 1) → hiOk ρ hi9 → ahead v ρ θ2 (i + 1) hi9 → wkR v nt cs Inv ρ (go hi9 θ2 ρ) (ledI v nt θ2 ρ (i + 1) n hi9 (fun _ => True))) :
    ∀ (l : List Nat) (σ : JS), (∀ y ∈ l, y ∈ rng (v.2.1 i 3) θ nt) → Inv σ → (¬ v.2.1 i 0 = 0 → ∀ y, y < 10 → ((fit >>> (nI y &&& 31)) &&& 1) = bi (bitB (v.2.1 i) x y σ.1)) → hiOk σ high → ahead v σ θ i high → wkR v nt cs Inv σ (w2P (v.2.1 i) x fit high θ go l σ) (ledI v nt θ σ i (n + 1) high (fun τ => thT (v.2.1 i 3) τ ∈ l)) := by
  intro l
  induction l with
  | nil =>
    intro σ _ h0 _ _ _
    exact ⟨h0, grow_rf (hI.1 σ h0).1 (hI.1 σ h0).2.1, fun _ => rfl, fun τ B h => absurd h.2.2.2.1 (by simp)⟩
  | cons y ys ih =>
    intro σ hl h0 hf hh ha
    have hw := (hI.1 σ h0).1
    have he := (hI.1 σ h0).2.1
    have hmem := (hI.1 σ h0).2.2
    have hok := hv.2.1 i hi
    obtain ⟨hy, hθ2, hval⟩ := rng_val hok.2.2.2 hn hθ (hl y List.mem_cons_self)
    have hbit : (((if v.2.1 i 0 = 0 then σ.1 ((v.2.1 i 1).toNatClampNeg * 10 + x) else fit) >>> (nI y &&& 31)) &&& 1) = bi (bitB (v.2.1 i) x y σ.1) := by
      by_cases t0 : v.2.1 i 0 = 0
      · have h9 := tm_bit hok hw hx hy
        rw [if_pos t0] at h9 ⊢
        exact h9
      · rw [if_neg t0]; exact hf t0 y hy
    simp only [w2P]
    rw [if_neg (by rw [he]; decide), hbit]
    cases hB : bitB (v.2.1 i) x y σ.1 with
    | false =>
      rw [if_pos (show bi false = 0 from rfl)]
      obtain ⟨a1, a2, a3, a4⟩ := ih σ (fun z hz => hl z (List.mem_cons_of_mem _ hz)) h0 hf hh ha
      refine ⟨a1, a2, a3, fun τ B h => a4 τ B ⟨h.1, h.2.1, h.2.2.1, ?_, h.2.2.2.2⟩⟩
      rcases List.mem_cons.mp h.2.2.2.1 with q | q
      · have := (bit_hold (f := σ.1) (hxe τ h.2.1) q).mp (h.2.2.1 i (Nat.le_refl _) hi)
        rw [hB] at this
        cases this
      · exact q
    | true =>
      rw [if_neg (show ¬ bi true = 0 by decide)]
      have hst : hiOk σ (if v.2.1 i 0 = 0 then σ.2.1 (((v.2.1 i 1).toNatClampNeg * 10 + x) * 10 + y) else 0) := by
        by_cases t0 : v.2.1 i 0 = 0
        · rw [if_pos t0]
          have hk := (hok.2.1 (by rw [t0]; decide)).2
          unfold bitB at hB
          rw [if_neg (by rw [t0]; decide), if_pos t0] at hB
          exact hmem _ (by omega) hB
        · rw [if_neg t0]; exact hiOk_0 σ
      have hnm : ∀ τ, extT (bndS (v.2.1 i 3) θ y) τ → nmT (v.2.1 i) τ = ((v.2.1 i 1).toNatClampNeg * 10 + x) * 10 + y := fun τ q => by
        show ((v.2.1 i 1).toNatClampNeg * 10 + thT (v.2.1 i 2) τ) * 10 + thT (v.2.1 i 3) τ = _
        rw [hxe τ (hval τ q).1, (hval τ q).2]
      have ha2 : ahead v σ (bndS (v.2.1 i 3) θ y) (i + 1) (imax high (if v.2.1 i 0 = 0 then σ.2.1 (((v.2.1 i 1).toNatClampNeg * 10 + x) * 10 + y) else 0)) := by
        intro j hj τ q
        rcases Nat.lt_or_ge j i with e | e
        · obtain ⟨b1, b2⟩ := ha j e τ (hval τ q).1
          exact ⟨b1, fun z => Int32.le_trans (b2 z) (imax_l _ _)⟩
        · have e : j = i := by omega
          subst e
          refine ⟨(bit_hold (hxe τ (hval τ q).1) (hval τ q).2).mpr hB, fun z => ?_⟩
          rw [hnm τ q, if_pos z]
          exact imax_r _ _
      obtain ⟨g1, g2, g3, g4⟩ := hgo _ _ σ h0 hθ2 (bnTo_2 hb hok.2.2.2 hn hb2) (hiOk_max hh hst) ha2
      generalize hρ : go (imax high (if v.2.1 i 0 = 0 then σ.2.1 (((v.2.1 i 1).toNatClampNeg * 10 + x) * 10 + y) else 0)) (bndS (v.2.1 i 3) θ y) σ = ρ at g1 g2 g3 g4 ⊢
      have hmem2 := (hI.1 ρ g1).2.2
      obtain ⟨a1, a2, a3, a4⟩ := ih ρ (fun z hz => hl z (List.mem_cons_of_mem _ hz)) g1 (fun t0 z hz => by rw [bit_grow hv hi hx hz (hNot i hi) g2 t0]; exact hf t0 z hz) (hiOk_mono hh g2) (ahead_grow hv hn (by omega) hθ hb hNot (fun c k => by rw [g3 c]) g2 ha)
      refine ⟨a1, g2.tr a2, fun c => (a3 c).trans (g3 c), fun τ B h => ?_⟩
      obtain ⟨h1, h2, h3, h4, rfl⟩ := h
      have hN := nmH_lt hv hn h1
      by_cases q : thT (v.2.1 i 3) τ = y
      · have he2 : extT (bndS (v.2.1 i 3) θ y) τ := by rw [← q]; exact bnd_ext hok.2.2.2 hn h2
        have c1 := g4 τ _ ⟨h1, he2, fun j a b => h3 j (by omega) b, trivial, rfl⟩
        refine cp_grow hN a2 ?_
        have e : bdM v τ σ.2.1 (n + 1) i high = bdM v τ σ.2.1 n (i + 1) (imax high (if v.2.1 i 0 = 0 then σ.2.1 (((v.2.1 i 1).toNatClampNeg * 10 + x) * 10 + y) else 0)) := by
          simp only [bdM]
          rw [hnm τ he2]
        rw [e]
        exact c1
      · have q2 : thT (v.2.1 i 3) τ ∈ ys := (List.mem_cons.mp h4).resolve_left q
        have hh3 : ∀ j, i ≤ j → j < v.2.2.1 → tmHold (v.2.1 j) τ (rowS ρ.1) := fun j a b => (hold_grow hv hn h1 g2 b (hNot j b) (h3 j a b)).1
        have c1 := a4 τ _ ⟨h1, h2, hh3, q2, rfl⟩
        refine cp_mono c1 (bdM_mono _ _ (Int32.le_refl _) (fun j a b t0 => ?_)) (bdM_ok hv hn h1 hmem2 _ _ hin (hiOk_mono hh g2) hh3).1 (hiOk_1000 (bdM_ok hv hn h1 hmem _ _ hin hh h3))
        cases cs with
        | true => exact (hold_grow hv hn h1 g2 (by omega) (hNot j (by omega)) (h3 j a (by omega))).2 rfl t0
        | false => rw [g3 rfl]; exact Int32.le_refl _
end FIRE4
