/-! settling: a RULE fired -/
section JUDGE2
variable {F : Nat → Bool} {V : Nat → RV} {rc : Nat} {U : Nat → Bool} {nt : Nat} {L : Nat → Nat} {s : Nat → Option Nat} {cs : Bool}
theorem i0 : ((0 : Int32)).toInt = 0 := by decide
theorem i1 : ((1 : Int32)).toInt = 1 := by decide
theorem hi_up {x : Int32} (h0 : 0 ≤ x) (h1 : x ≤ nI 1000) : (x + 1).toInt = x.toInt + 1 ∧ 0 < x + 1 := by
  have e2 : (nI 1000).toInt = 1000 := by decide
  rw [Int32.le_iff_toInt_le] at h0 h1
  rw [i0] at h0
  rw [e2] at h1
  have h3 : (x + 1).toInt = x.toInt + 1 := by rw [fb_addI (by rw [i1]; omega) (by rw [i1]; omega), i1]
  exact ⟨h3, by rw [Int32.lt_iff_toInt_lt, h3, i0]; omega⟩
theorem tk_inv (hs : IsSt F V rc U nt s) (hVa : ∀ r, r < rc → okRl nt (V r)) (hn : nt ≤ 10) (hS : Sat V rc L) {l r : Nat} {σ0 σ : JS} {τ : Nat → Nat} {high : Int32} (hr : r < rc) (hU : U r = true) (hl : L (rvH (V r)) = l) (hb : bsI F L s cs l σ) (ht : tick σ0 σ) (hτ : okT (V r) nt τ) (hh : ∀ j, j < (V r).2.2.1 → tmHold ((V r).2.1 j) τ (rowS σ.1)) (hg : ∀ j, j < (V r).2.2.1 → (V r).2.1 j 0 = 0 → σ.2.1 (nmT ((V r).2.1 j) τ) ≤ high) (h0 : hiOk σ high) : bsI F L s cs l (tkP cs (nmT (V r).1 τ) (high + 1) σ) ∧ tick σ0 (tkP cs (nmT (V r).1 τ) (high + 1) σ) := by
  obtain ⟨n1, n2⟩ := head_k (hVa r hr) hn hτ
  obtain ⟨d, d1, d2⟩ := st_head hs hVa hn hS hr hU (Nat.le_of_eq hl) hb hτ hh hg h0
  have hd := st_le hVa hn hs n1 d1
  obtain ⟨u1, u2⟩ := hi_up h0.1 (hiOk_1000 h0)
  have hsp := tkP_spec (cs := cs) (s := high + 1) (σ := σ) n1 hb.1.1 hb.1.2.1
  revert hsp
  rcases tk_cases (cs := cs) (s := high + 1) (σ := σ) n1 hb.1.1 with e | ⟨e1, e2, e3, e4, e5, e6, e7⟩
  · rw [e]; exact fun _ => ⟨hb, ht⟩
  · generalize tkP cs (nmT (V r).1 τ) (high + 1) σ = ρ at *
    intro hsp
    generalize hN : nmT (V r).1 τ = N at *
    have hcnt := cntS_mono hsp.1
    have hg1 : cs = true → ∀ m, ρ.2.1 m = if m = N then high + 1 else σ.2.1 m := fun c m => by
      rw [e3, if_pos c]; rfl
    have hg2 : cs = false → ρ.2.1 = σ.2.1 := fun c => by rw [e3, if_neg (by rw [c]; decide)]
    have hgn : ∀ m, m ≠ N → ρ.2.1 m = σ.2.1 m := fun m hm => by
      cases cs with
      | true => rw [hg1 rfl, if_neg hm]
      | false => rw [hg2 rfl]
    have hrn : ∀ m, m < 1000 → m ≠ N → rowS ρ.1 m = rowS σ.1 m := fun m hm h => by rw [e2 m hm]; simp [h]
    have hhi : cs = true → hiOk ρ (high + 1) := fun c => by
      refine ⟨Int32.le_of_lt u2, ?_⟩
      rcases e7 with q | ⟨hrow, -, q⟩
      · have h1 : cntS σ + 1 ≤ cntS ρ := ct_strict n1 q (by rw [e2 N n1]; simp) (fun k hk h => by rw [e2 k hk, h]; rfl)
        have h2 := cntS_le ρ
        have h3 := h0.2
        have h4 := cntS_le σ
        rw [Int32.le_iff_toInt_le, nI_toInt (by omega)] at h3 ⊢
        rw [u1]
        omega
      · exact Int32.le_trans (Int32.le_of_lt q) (Int32.le_trans (hb.1.2.2 N n1 hrow).2 (nI_le hcnt (by have := cntS_le ρ; omega)))
    have hpot : pot cs ρ + 1 ≤ pot cs σ := by
      have hw : ∀ m, m < 1000 → wgt cs ρ m = if m = N then wgt cs ρ N else wgt cs σ m := fun m hm => by
        by_cases e : m = N
        · rw [if_pos e, e]
        · rw [if_neg e]; unfold wgt; rw [hrn m hm e, hgn m e]
      have h1 := fb_sm_upd (wgt cs σ) (wgt cs ρ N) n1
      have h2 : pot cs ρ = fb_sm (fun k => if k = N then wgt cs ρ N else wgt cs σ k) 1000 := fb_sm_cong hw
      have h3 : wgt cs ρ N < wgt cs σ N := by
        unfold wgt
        rw [show rowS ρ.1 N = true by rw [e2 N n1]; simp, if_pos rfl]
        rcases e7 with q | ⟨q1, q2, q3⟩
        · rw [q, if_neg (show ¬ false = true by decide)]
          cases cs with
          | false => rw [if_neg (by decide)]; omega
          | true =>
            rw [if_pos rfl, hg1 rfl, if_pos rfl]
            have h5 := hiOk_1000 (hhi rfl)
            obtain ⟨z1, z2, z3⟩ := nI_toN (Int32.le_of_lt u2)
            have e9 : (nI 1000).toInt = 1000 := by decide
            rw [Int32.le_iff_toInt_le, e9] at h5
            omega
        · subst q2
          rw [q1, if_pos rfl, if_pos rfl, if_pos rfl, hg1 rfl, if_pos rfl]
          obtain ⟨z1, z2, z3⟩ := nI_toN (Int32.le_of_lt u2)
          obtain ⟨y1, y2, y3⟩ := nI_toN (hb.1.2.2 N n1 q1).1
          rw [Int32.lt_iff_toInt_lt] at q3
          omega
      show pot cs ρ + 1 ≤ fb_sm (wgt cs σ) 1000
      omega
    have hclk : (σ.2.2.2.1 + 1).toInt = σ.2.2.2.1.toInt + 1 := by
      have h1 := hb.2.2.2.1
      rw [Int32.le_iff_toInt_le, i0] at h1
      rw [fb_addI (by rw [i1]; omega) (by rw [i1]; omega), i1]
    have hclk0 : 0 ≤ σ.2.2.2.1.toInt := by
      have h1 := hb.2.2.2.1.1
      rw [Int32.le_iff_toInt_le, i0] at h1
      exact h1
    refine ⟨⟨⟨e1, by rw [e6]; exact hb.1.2.1, fun m hm hm2 => ?_⟩, fun m hm hm2 => ?_, fun m x hm hx hor => ?_, ⟨?_, ?_⟩, fun c m hm => ?_⟩, ?_, fun k => ?_⟩
    · by_cases e : m = N
      · cases cs with
        | true => rw [hg1 rfl, if_pos e]; exact hhi rfl
        | false => rw [hg2 rfl, hb.2.2.2.2 rfl m hm]; exact hiOk_0 ρ
      · rw [hgn m e]
        rw [hrn m hm e] at hm2
        exact hiOk_mono (hb.1.2.2 m hm hm2) hsp.1
    · by_cases e : m = N
      · refine ⟨d, by rw [e]; exact d1, fun c => ?_⟩
        rw [hg1 c, if_pos e]
        exact d2 c
      · rw [hgn m e]
        rw [hrn m hm e] at hm2
        exact hb.2.1 m hm hm2
    · by_cases e : m = N
      · exfalso
        subst e
        have hF : F m = true := hor.resolve_right (by rw [n2, hl]; omega)
        have hx0 := hs.1 m hm hF
        have hf := hb.2.2.1 m 0 hm hx0 (Or.inl hF)
        rcases e7 with q | ⟨q1, q2, q3⟩
        · rw [hf.1] at q; cases q
        · rw [hf.2 q2] at q3
          rw [Int32.lt_iff_toInt_lt] at q3 u2
          have : (nI 0).toInt = 0 := by decide
          rw [this] at q3
          rw [i0] at u2
          omega
      · have hf := hb.2.2.1 m x hm hx hor
        exact ⟨by rw [hrn m hm e]; exact hf.1, fun c => by rw [hgn m e]; exact hf.2 c⟩
    · rw [e5, Int32.le_iff_toInt_le, hclk, i0]; omega
    · have := hb.2.2.2.1.2
      rw [e5, hclk]; omega
    · rw [hg2 c]; exact hb.2.2.2.2 c m hm
    · rw [e5, Int32.le_iff_toInt_le, hclk]
      have := ht.1
      rw [Int32.le_iff_toInt_le] at this
      omega
    · by_cases e : k = N / 100
      · right
        rw [e4, e, upd, if_pos rfl, Int32.lt_iff_toInt_lt, hclk]
        have := ht.1
        rw [Int32.le_iff_toInt_le] at this
        omega
      · have hc : ρ.2.2.1 k = σ.2.2.1 k := by rw [e4, upd, if_neg e]
        rcases ht.2 k with ⟨q1, q2⟩ | q
        · left
          refine ⟨hc.trans q1, fun m hm hk => ?_⟩
          have hne : m ≠ N := fun z => e (by rw [← z]; exact hk.symm)
          exact ⟨(hrn m hm hne).trans (q2 m hm hk).1, (hgn m hne).trans (q2 m hm hk).2⟩
        · right
          rw [hc]; exact q
theorem inv_ok (hs : IsSt F V rc U nt s) (hVa : ∀ r, r < rc → okRl nt (V r)) (hn : nt ≤ 10) (hS : Sat V rc L) {l r : Nat} {σ0 : JS} (hr : r < rc) (hU : U r = true) (hl : L (rvH (V r)) = l) : invOk (V r) nt cs (fun σ => bsI F L s cs l σ ∧ tick σ0 σ) :=
  ⟨fun σ h => h.1.1, fun σ i h => h, fun σ τ high h h1 h2 h3 h4 => tk_inv hs hVa hn hS hr hU hl h.1 h.2 h1 h2 h3 h4⟩
theorem not_own (hS : Sat V rc L) {r : Nat} (hr : r < rc) : ∀ j, j < (V r).2.2.1 → (V r).2.1 j 0 = 1 → ((V r).2.1 j 1).toNatClampNeg ≠ hkV (V r) := by
  intro j hj t1 e
  have hk := sat_kind hS hr hj (by rw [t1]; decide)
  rw [if_pos t1] at hk
  have e : rvK (V r) j = rvH (V r) := e
  rw [e] at hk
  omega
/-- what a RULE fired does -/
theorem fire_inv (hs : IsSt F V rc U nt s) (hVa : ∀ r, r < rc → okRl nt (V r)) (hn : nt ≤ 10) (hS : Sat V rc L) {l r : Nat} {σ : JS} {want : Int32} {θ : Nat → Option Nat} (hr : r < rc) (hU : U r = true) (hl : L (rvH (V r)) = l) (hb : bsI F L s cs l σ) (hθ : ∀ s, s < 3 → θ s = none) :
    bsI F L s cs l (wkP (V r) nt cs 0 want (V r).2.2.1 0 0 θ σ) ∧ tick σ (wkP (V r) nt cs 0 want (V r).2.2.1 0 0 θ σ) ∧ grow cs (rvH (V r)) σ (wkP (V r) nt cs 0 want (V r).2.2.1 0 0 θ σ) ∧ ∀ τ, okT (V r) nt τ → (∀ j, j < (V r).2.2.1 → tmHold ((V r).2.1 j) τ (rowS σ.1)) → cpOk (V r) cs τ (wkP (V r) nt cs 0 want (V r).2.2.1 0 0 θ σ) (bdM (V r) τ σ.2.1 (V r).2.2.1 0 0) := by
  obtain ⟨a1, a2, a3, a4⟩ := fire_main (want := want) (hVa r hr) hn (inv_ok (cs := cs) (σ0 := σ) hs hVa hn hS hr hU hl) (not_own hS hr) ⟨hb, tick_rf σ⟩ hθ
  exact ⟨a1.1, a1.2, a2, fun τ h1 h2 => a4 τ _ ⟨h1, h2, rfl⟩⟩
end JUDGE2
