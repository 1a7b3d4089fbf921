/-! firing a RULE: the whole -/
section FIRE3
variable {v : RV} {nt : Nat} {cs : Bool} {Inv : JS → Prop}
abbrev hkV (v : RV) : Nat := (v.1 1).toNatClampNeg
/-- Inv is kept, more is there; what TERMS that hold from i on lead to is there -/
def wkOk (v : RV) (nt : Nat) (cs : Bool) (Inv : JS → Prop) (i n : Nat) (high : Int32) (θ : Nat → Option Nat) (σ ρ : JS) : Prop :=
  Inv ρ ∧ grow cs (hkV v) σ ρ ∧ ∀ τ, okT v nt τ → extT θ τ → (∀ j, i ≤ j → j < v.2.2.1 → tmHold (v.2.1 j) τ (rowS σ.1)) → rowS ρ.1 (nmT v.1 τ) = true ∧ (cs = true → ρ.2.1 (nmT v.1 τ) ≤ bdM v τ σ.2.1 n i high + 1)
theorem ahead_grow {k : Nat} {σ ρ : JS} {θ : Nat → Option Nat} {i : Nat} {high : Int32} (hv : okRl nt v) (hn : nt ≤ 10) (hi : i ≤ v.2.2.1) (hθ : okTh nt θ) (hb : bnTo v θ i) (hNot : ∀ j, j < v.2.2.1 → v.2.1 j 0 = 1 → (v.2.1 j 1).toNatClampNeg ≠ k) (hcs : cs = false → ∀ n, σ.2.1 n = ρ.2.1 n) (hg : grow cs k σ ρ) (h : ahead v σ θ i high) : ahead v ρ θ i high := by
  intro j hj τ he
  obtain ⟨h1, h2⟩ := h j hj τ he
  have hlt : ∀ s, s < 3 → sgIn (v.2.1 j) s → τ s < 10 := fun s hs q => by
    cases e : θ s with
    | none => exact absurd e (hb j hj s hs q)
    | some t => rw [he s t hs e]; have := hθ s t hs e; omega
  unfold tmHold at h1 ⊢
  by_cases t2 : v.2.1 j 0 = 2
  · rw [if_pos t2] at h1 ⊢
    exact ⟨h1, fun q => by rw [t2] at q; exact absurd q (by decide)⟩
  · have hk := ((hv.2.1 j (by omega)).2.1 t2).2
    have h9 := nmT_k (hv.2.1 j (by omega)).2.2.1 (hv.2.1 j (by omega)).2.2.2 hn hlt
    have n1 : nmT (v.2.1 j) τ < 1000 := by omega
    rw [if_neg t2] at h1 ⊢
    by_cases t0 : v.2.1 j 0 = 0
    · rw [if_pos t0] at h1 ⊢
      refine ⟨(hg.2.2.1 _ n1 h1).1, fun q => ?_⟩
      cases cs with
      | true => exact Int32.le_trans ((hg.2.2.1 _ n1 h1).2 rfl) (h2 q)
      | false => rw [← hcs rfl]; exact h2 q
    · rw [if_neg t0] at h1 ⊢
      have t1 : v.2.1 j 0 = 1 := by
        rcases (hv.2.1 j (by omega)).1 with q | q | q
        · exact absurd q t0
        · exact q
        · exact absurd q t2
      refine ⟨?_, fun q => absurd q t0⟩
      rw [(hg.2.2.2 _ n1 (by rw [h9.1]; exact hNot j (by omega) t1)).1]
      exact h1
theorem wk_0 (hv : okRl nt v) (hn : nt ≤ 10) (hI : invOk v nt cs Inv) {high want : Int32} {θ : Nat → Option Nat} {σ : JS} (h0 : Inv σ) (hθ : okTh nt θ) (hb : bnTo v θ v.2.2.1) (hh : hiOk σ high) (ha : ahead v σ θ v.2.2.1 high) : wkOk v nt cs Inv v.2.2.1 0 high θ σ (arrP v cs 0 want high θ (rchP v.2.2.1 σ)) := by
  have hx : ∀ s, s < 3 → (∃ j, j < v.2.2.1 ∧ sgIn (v.2.1 j) s) → ∃ t, θ s = some t ∧ t < nt := fun s hs ⟨j, hj, q⟩ => by
    cases e : θ s with
    | none => exact absurd e (hb j hj s hs q)
    | some t => exact ⟨t, rfl, hθ s t hs e⟩
  have hhd : ∀ s, s < 3 → sgIn v.1 s → θ s ≠ none := fun s hs q => by
    obtain ⟨t, e, -⟩ := hx s hs (hv.2.2.2.2.2 s hs q)
    rw [e]; exact fun q => by cases q
  have hnm : ∀ τ, extT θ τ → nmP v.1 θ = nmT v.1 τ := fun τ he => by
    have a := th_ext hv.2.2.2.1 hn he (fun s hs e => hhd s hs (Or.inl e))
    have b := th_ext hv.2.2.2.2.1 hn he (fun s hs e => hhd s hs (Or.inr e))
    show ((v.1 1).toNatClampNeg * 10 + thO (v.1 2) θ) * 10 + thO (v.1 3) θ = ((v.1 1).toNatClampNeg * 10 + thT (v.1 2) τ) * 10 + thT (v.1 3) τ
    rw [a, b]
  have hok : okT v nt (totT θ) := fun s hs q => by
    obtain ⟨t, e, ht⟩ := hx s hs q
    unfold totT; rw [e]; exact ht
  have hlt := nmP_lt (θ := θ) hv.2.2.1.2 hv.2.2.2.1 hv.2.2.2.2.1 hθ hn
  have hkd : nmP v.1 θ / 100 = hkV v := by
    have a := thO_lt hv.2.2.2.1 hθ hn
    have b := thO_lt hv.2.2.2.2.1 hθ hn
    show (((v.1 1).toNatClampNeg * 10 + thO (v.1 2) θ) * 10 + thO (v.1 3) θ) / 100 = (v.1 1).toNatClampNeg
    omega
  have h1 := hI.2.1 σ v.2.2.1 h0
  have h2 := hI.1 _ h1
  have hsp := tkP_spec (cs := cs) (s := high + 1) (σ := rchP v.2.2.1 σ) hlt h2.1 h2.2.1
  rw [arrP, if_pos rfl]
  refine ⟨?_, ?_, fun τ hτ he hd => ?_⟩
  · rw [hnm _ (totT_ext θ)]
    exact hI.2.2 _ _ _ h1 hok (fun j hj => (ha j hj _ (totT_ext θ)).1) (fun j hj q => (ha j hj _ (totT_ext θ)).2 q) hh
  · rw [hkd] at hsp
    exact hsp.1
  · rw [← hnm τ he]
    exact ⟨hsp.2.1, hsp.2.2⟩
end FIRE3
