/-! how far a RULE comes, and by which THINGS first: the mathematics of wkP with aims 1 and 2 -/
section REACH
variable {v : RV} {nt : Nat} {cs : Bool} {f : Nat → Int32}
def okP (v : RV) (nt : Nat) (τ : Nat → Nat) (i j : Nat) : Prop := ∀ s, s < 3 → (∃ m, i ≤ m ∧ m < j ∧ sgIn (v.2.1 m) s) → τ s < nt
def hldP (v : RV) (f : Nat → Int32) (τ : Nat → Nat) (i j : Nat) : Prop := ∀ m, i ≤ m → m < j → tmHold (v.2.1 m) τ (rowS f)
def pfx (v : RV) (nt : Nat) (θ : Nat → Option Nat) (f : Nat → Int32) (i j : Nat) : Prop := ∃ τ, extT θ τ ∧ okP v nt τ i j ∧ hldP v f τ i j
def rcOk (v : RV) (σ : JS) (ρ : Nat) : Prop := σ.2.2.2.2.1 = nI ρ ∧ ρ ≤ v.2.2.1 ∧ (σ.2.2.2.2.2.1 = true → ρ = v.2.2.1)
theorem imax_nI {a b : Nat} (ha : a < 2 ^ 31) (hb : b < 2 ^ 31) : imax (nI a) (nI b) = nI (max a b) := by unfold imax; exact nI_max ha hb
/-- the SIGNS of a TERM whose THINGS are bound -/
theorem tm_lt {i x y : Nat} {θ : Nat → Option Nat} (hok : okTm nt (v.2.1 i)) (hn : nt ≤ 10) (hθ : okTh nt (bndS (v.2.1 i 3) (bndS (v.2.1 i 2) θ x) y)) {τ : Nat → Nat} (he : extT (bndS (v.2.1 i 3) (bndS (v.2.1 i 2) θ x) y) τ) : ∀ s, s < 3 → sgIn (v.2.1 i) s → τ s < nt := by
  intro s hs q
  have hne : bndS (v.2.1 i 3) (bndS (v.2.1 i 2) θ x) y s ≠ none := by
    rcases q with q | q
    · have h1 := bnd_free (θ := θ) (x := x) hok.2.2.1 hn s hs q
      cases e : frS (v.2.1 i 3) (bndS (v.2.1 i 2) θ x) with
      | none => rw [bndS_none e]; exact h1
      | some t =>
        rw [bndS_some e]
        unfold va_up
        split
        · exact fun z => by cases z
        · exact h1
    · exact bnd_free hok.2.2.2 hn s hs q
  cases e : bndS (v.2.1 i 3) (bndS (v.2.1 i 2) θ x) y s with
  | none => exact absurd e hne
  | some t => rw [he s t hs e]; exact hθ s t hs e
theorem pfx_ext {θ θ' : Nat → Option Nat} {i j : Nat} (h : ∀ τ, extT θ' τ → extT θ τ) (q : pfx v nt θ' f i j) : pfx v nt θ f i j := by
  obtain ⟨τ, a, b⟩ := q
  exact ⟨τ, h τ a, b⟩
theorem re_w2 (hv : okRl nt v) (hn : nt ≤ 10) (hw : wfR f) {i x : Nat} {high fit : Int32} {θ0 : Nat → Option Nat} {go : Int32 → (Nat → Option Nat) → JS → JS} (hi : i < v.2.2.1)
    (hx : x < 10) (hθ : okTh nt (bndS (v.2.1 i 2) θ0 x)) (hxe : ∀ τ, extT (bndS (v.2.1 i 2) θ0 x) τ → thT (v.2.1 i 2) τ = x) (hfit : ¬ v.2.1 i 0 = 0 → ∀ y, y < 10 → ((fit >>> (nI y &&& 31)) &&& 1) = bi (bitB (v.2.1 i) x y f))
    (hgo : ∀ hi9 θ2 σ ρ, σ.1 = f → okTh nt θ2 → rcOk v σ ρ → σ.2.2.2.2.2.1 = false → (go hi9 θ2 σ).1 = f ∧ ∃ ρ', rcOk v (go hi9 θ2 σ) ρ' ∧ ρ ≤ ρ' ∧ (ρ' = ρ ∨ (i + 1 ≤ ρ' ∧ pfx v nt θ2 f (i + 1) ρ')) ∧ ∀ j, i + 1 ≤ j → j ≤ v.2.2.1 → pfx v nt θ2 f (i + 1) j → j ≤ ρ') :
    ∀ (l : List Nat) (σ : JS) (ρ : Nat), (∀ y ∈ l, y ∈ rng (v.2.1 i 3) (bndS (v.2.1 i 2) θ0 x) nt) → σ.1 = f → rcOk v σ ρ → (w2P (v.2.1 i) x fit high (bndS (v.2.1 i 2) θ0 x) go l σ).1 = f ∧ ∃ ρ', rcOk v (w2P (v.2.1 i) x fit high (bndS (v.2.1 i 2) θ0 x) go l σ) ρ' ∧ ρ ≤ ρ' ∧ (ρ' = ρ ∨ (i + 1 ≤ ρ' ∧ pfx v nt (bndS (v.2.1 i 2) θ0 x) f i ρ')) ∧ ∀ j τ, i < j → j ≤ v.2.2.1 → extT (bndS (v.2.1 i 2) θ0 x) τ → okP v nt τ i j → hldP v f τ i j → thT (v.2.1 i 3) τ ∈ l → j ≤ ρ' := by
  intro l
  induction l with
  | nil => exact fun σ ρ _ h1 h2 => ⟨h1, ρ, h2, Nat.le_refl _, Or.inl rfl, fun j τ _ _ _ _ _ q => by cases q⟩
  | cons y ys ih =>
    intro σ ρ hl h1 h2
    have hok := hv.2.1 i hi
    have hmy := hl y List.mem_cons_self
    obtain ⟨hy, hθ2, hval⟩ := rng_val hok.2.2.2 hn hθ hmy
    simp only [w2P]
    cases he : σ.2.2.2.2.2.1 with
    | true =>
      rw [if_pos rfl]
      exact ⟨h1, ρ, h2, Nat.le_refl _, Or.inl rfl, fun j τ _ hj _ _ _ _ => by rw [h2.2.2 he]; exact hj⟩
    | false =>
      rw [if_neg (by decide)]
      have hbit : (((if v.2.1 i 0 = 0 then σ.1 ((v.2.1 i 1).toNatClampNeg * 10 + x) else fit) >>> (nI y &&& 31)) &&& 1) = bi (bitB (v.2.1 i) x y f) := by
        rw [h1]
        by_cases t0 : v.2.1 i 0 = 0
        · have h9 := tm_bit hok hw hx hy
          rw [if_pos t0] at h9 ⊢
          exact h9
        · rw [if_neg t0]; exact hfit t0 y hy
      rw [hbit]
      cases hB : bitB (v.2.1 i) x y f with
      | false =>
        rw [if_pos (show bi false = 0 from rfl)]
        obtain ⟨a0, ρ', a1, a2, a3, a4⟩ := ih σ ρ (fun z hz => hl z (List.mem_cons_of_mem _ hz)) h1 h2
        refine ⟨a0, ρ', a1, a2, a3, fun j τ b1 b2 b3 b4 b5 b6 => a4 j τ b1 b2 b3 b4 b5 ?_⟩
        rcases List.mem_cons.mp b6 with q | q
        · have := (bit_hold (f := f) (hxe τ b3) q).mp (b5 i (Nat.le_refl _) b1)
          rw [hB] at this; cases this
        · exact q
      | true =>
        rw [if_neg (show ¬ bi true = 0 by decide)]
        generalize imax high (if v.2.1 i 0 = 0 then σ.2.1 (((v.2.1 i 1).toNatClampNeg * 10 + x) * 10 + y) else 0) = hh
        obtain ⟨g0, ρ1, g1, g2, g3, g4⟩ := hgo hh _ σ ρ h1 hθ2 h2 he
        obtain ⟨a0, ρ', a1, a2, a3, a4⟩ := ih (go hh (bndS (v.2.1 i 3) (bndS (v.2.1 i 2) θ0 x) y) σ) ρ1 (fun z hz => hl z (List.mem_cons_of_mem _ hz)) g0 g1
        refine ⟨a0, ρ', a1, Nat.le_trans g2 a2, ?_, fun j τ b1 b2 b3 b4 b5 b6 => ?_⟩
        · rcases a3 with q | q
          · rcases g3 with z | ⟨z1, τ, z2, z3, z4⟩
            · exact Or.inl (q.trans z)
            · rw [q]
              refine Or.inr ⟨z1, τ, (hval τ z2).1, fun s hs ⟨m, m1, m2, m3⟩ => ?_, fun m m1 m2 => ?_⟩
              · rcases Nat.eq_or_lt_of_le m1 with e | e
                · subst e; exact tm_lt hok hn hθ2 z2 s hs m3
                · exact z3 s hs ⟨m, e, m2, m3⟩
              · rcases Nat.eq_or_lt_of_le m1 with e | e
                · subst e; exact (bit_hold (hxe τ (hval τ z2).1) (hval τ z2).2).mpr hB
                · exact z4 m e m2
          · exact Or.inr q
        · rcases List.mem_cons.mp b6 with q | q
          · refine Nat.le_trans (g4 j b1 b2 ⟨τ, by rw [← q]; exact bnd_ext hok.2.2.2 hn b3, fun s hs ⟨m, m1, m2⟩ => b4 s hs ⟨m, by omega, m2⟩, fun m m1 m2 => b5 m (by omega) m2⟩) a2
          · exact a4 j τ b1 b2 b3 b4 b5 q
theorem re_w1 (hv : okRl nt v) (hn : nt ≤ 10) (hw : wfR f) {i : Nat} {high : Int32} {θ : Nat → Option Nat} {go : Int32 → (Nat → Option Nat) → JS → JS} (hi : i < v.2.2.1) (hθ : okTh nt θ)
    (hgo : ∀ hi9 θ2 σ ρ, σ.1 = f → okTh nt θ2 → rcOk v σ ρ → σ.2.2.2.2.2.1 = false → (go hi9 θ2 σ).1 = f ∧ ∃ ρ', rcOk v (go hi9 θ2 σ) ρ' ∧ ρ ≤ ρ' ∧ (ρ' = ρ ∨ (i + 1 ≤ ρ' ∧ pfx v nt θ2 f (i + 1) ρ')) ∧ ∀ j, i + 1 ≤ j → j ≤ v.2.2.1 → pfx v nt θ2 f (i + 1) j → j ≤ ρ') :
    ∀ (l : List Nat) (σ : JS) (ρ : Nat), (∀ y ∈ l, y ∈ rng (v.2.1 i 2) θ nt) → σ.1 = f → rcOk v σ ρ → (w1P (v.2.1 i) nt high θ go l σ).1 = f ∧ ∃ ρ', rcOk v (w1P (v.2.1 i) nt high θ go l σ) ρ' ∧ ρ ≤ ρ' ∧ (ρ' = ρ ∨ (i + 1 ≤ ρ' ∧ pfx v nt θ f i ρ')) ∧ ∀ j τ, i < j → j ≤ v.2.2.1 → extT θ τ → okP v nt τ i j → hldP v f τ i j → thT (v.2.1 i 2) τ ∈ l → j ≤ ρ' := by
  intro l
  induction l with
  | nil => exact fun σ ρ _ h1 h2 => ⟨h1, ρ, h2, Nat.le_refl _, Or.inl rfl, fun j τ _ _ _ _ _ q => by cases q⟩
  | cons x xs ih =>
    intro σ ρ hl h1 h2
    have hok := hv.2.1 i hi
    obtain ⟨hx, hθ2, hval⟩ := rng_val hok.2.2.1 hn hθ (hl x List.mem_cons_self)
    simp only [w1P]
    cases he : σ.2.2.2.2.2.1 with
    | true =>
      rw [if_pos rfl]
      exact ⟨h1, ρ, h2, Nat.le_refl _, Or.inl rfl, fun j τ _ hj _ _ _ _ => by rw [h2.2.2 he]; exact hj⟩
    | false =>
      rw [if_neg (by decide), h1]
      have hlt : ∀ j τ, i < j → okP v nt τ i j → thT (v.2.1 i 3) τ < 10 := fun j τ b1 b4 => thT_lt hok.2.2.2 hn (fun s hs e => by
        have := b4 s hs ⟨i, Nat.le_refl _, b1, Or.inr e⟩
        omega)
      by_cases hs : secP (v.2.1 i) x f = 0
      · rw [if_pos hs]
        obtain ⟨a0, ρ', a1, a2, a3, a4⟩ := ih σ ρ (fun z hz => hl z (List.mem_cons_of_mem _ hz)) h1 h2
        refine ⟨a0, ρ', a1, a2, a3, fun j τ b1 b2 b3 b4 b5 b6 => a4 j τ b1 b2 b3 b4 b5 ?_⟩
        rcases List.mem_cons.mp b6 with q | q
        · have hy := hlt j τ b1 b4
          have h9 := (bit_hold (f := f) q rfl).mp (b5 i (Nat.le_refl _) b1)
          have hb9 := tm_bit (nt := nt) hok hw hx hy
          exact absurd hs (sec_ne (by
            rw [hb9]
            unfold bitB at h9
            rw [h9]
            decide) hy)
        · exact q
      · rw [if_neg hs]
        obtain ⟨g0, ρ1, g1, g2, g3, g4⟩ := re_w2 (high := high) (fit := secP (v.2.1 i) x f) hv hn hw hi hx hθ2 (fun τ q => (hval τ q).2) (fun t0 y hy => by
          have h9 := tm_bit (nt := nt) hok hw hx hy
          rw [if_neg t0] at h9
          exact h9) hgo (rng (v.2.1 i 3) (bndS (v.2.1 i 2) θ x) nt) σ ρ (fun _ h => h) h1 h2
        obtain ⟨a0, ρ', a1, a2, a3, a4⟩ := ih _ ρ1 (fun z hz => hl z (List.mem_cons_of_mem _ hz)) g0 g1
        refine ⟨a0, ρ', a1, Nat.le_trans g2 a2, ?_, fun j τ b1 b2 b3 b4 b5 b6 => ?_⟩
        · rcases a3 with q | q
          · rcases g3 with z | ⟨z1, z2⟩
            · exact Or.inl (q.trans z)
            · rw [q]; exact Or.inr ⟨z1, pfx_ext (fun τ q => (hval τ q).1) z2⟩
          · exact Or.inr q
        · rcases List.mem_cons.mp b6 with q | q
          · have he2 : extT (bndS (v.2.1 i 2) θ x) τ := by rw [← q]; exact bnd_ext hok.2.2.1 hn b3
            exact Nat.le_trans (g4 j τ b1 b2 he2 b4 b5 (rng_mem hok.2.2.2 hn he2 (fun s hs e => b4 s hs ⟨i, Nat.le_refl _, b1, Or.inr e⟩))) a2
          · exact a4 j τ b1 b2 b3 b4 b5 q
theorem re_wk (hv : okRl nt v) (hn : nt ≤ 10) (hw : wfR f) {want : Int32} : ∀ (n i : Nat) (high : Int32) (θ : Nat → Option Nat) (σ : JS) (ρ : Nat), i + n = v.2.2.1 → σ.1 = f → okTh nt θ → rcOk v σ ρ → σ.2.2.2.2.2.1 = false → (wkP v nt cs 1 want n i high θ σ).1 = f ∧ ∃ ρ', rcOk v (wkP v nt cs 1 want n i high θ σ) ρ' ∧ ρ ≤ ρ' ∧ (ρ' = ρ ∨ (i ≤ ρ' ∧ pfx v nt θ f i ρ')) ∧ ∀ j, i ≤ j → j ≤ v.2.2.1 → pfx v nt θ f i j → j ≤ ρ' := by
  intro n
  have hsz := hv.1
  induction n with
  | zero =>
    intro i high θ σ ρ hi h1 hθ h2 h3
    have h4 := h2.2.1
    refine ⟨h1, i, ⟨?_, by omega, fun _ => by omega⟩, by omega, Or.inr ⟨Nat.le_refl _, totT θ, totT_ext θ, fun s hs ⟨m, m1, m2, _⟩ => absurd m1 (by omega), fun m m1 m2 => absurd m1 (by omega)⟩, fun j a b _ => by omega⟩
    show imax σ.2.2.2.2.1 (nI i) = nI i
    rw [h2.1, imax_nI (by omega) (by omega), Nat.max_eq_right (by omega)]
  | succ n ih =>
    intro i high θ σ ρ hi h1 hθ h2 h3
    have h4 := h2.2.1
    have hlt : i < v.2.2.1 := by omega
    have hr : rcOk v (rchP i σ) (max ρ i) := ⟨by show imax σ.2.2.2.2.1 (nI i) = _; rw [h2.1, imax_nI (by omega) (by omega)], by omega, fun q => by rw [show (rchP i σ).2.2.2.2.2.1 = false from h3] at q; cases q⟩
    obtain ⟨a0, ρ', a1, a2, a3, a4⟩ := re_w1 (high := high) hv hn hw hlt hθ (go := fun hi τ ρ => wkP v nt cs 1 want n (i + 1) hi τ ρ) (fun hi9 θ2 σ ρ b1 b2 b3 b4 => ih (i + 1) hi9 θ2 σ ρ (by omega) b1 b2 b3 b4) (rng (v.2.1 i 2) θ nt) (rchP i σ) (max ρ i) (fun _ h => h) h1 hr
    refine ⟨a0, ρ', a1, by omega, ?_, fun j b1 b2 ⟨τ, c1, c2, c3⟩ => ?_⟩
    · rcases a3 with q | ⟨q1, q2⟩
      · rcases Nat.lt_or_ge ρ i with z | z
        · refine Or.inr ⟨by omega, totT θ, totT_ext θ, fun s hs ⟨m, m1, m2, _⟩ => absurd m1 (by omega), fun m m1 m2 => absurd m1 (by omega)⟩
        · exact Or.inl (by omega)
      · exact Or.inr ⟨by omega, q2⟩
    · rcases Nat.eq_or_lt_of_le b1 with e | e
      · omega
      · exact a4 j τ e b2 c1 c2 c3 (rng_mem (hv.2.1 i hlt).2.2.1 hn c1 (fun s hs q => c2 s hs ⟨i, Nat.le_refl _, e, Or.inl q⟩))
/-- the most of its TERMS that can hold together -/
theorem reach_spec (hv : okRl nt v) (hn : nt ≤ 10) (hw : wfR f) {want clk : Int32} {g c le : Nat → Int32} {θ : Nat → Option Nat} (hθ : okTh nt θ) : ∃ ρ, (wkP v nt cs 1 want v.2.2.1 0 0 θ (f, g, c, clk, 0, false, le)).2.2.2.2.1 = nI ρ ∧ ρ ≤ v.2.2.1 ∧ pfx v nt θ f 0 ρ ∧ ∀ j, j ≤ v.2.2.1 → pfx v nt θ f 0 j → j ≤ ρ := by
  obtain ⟨-, ρ, a1, a2, a3, a4⟩ := re_wk (cs := cs) (want := want) hv hn hw v.2.2.1 0 0 θ (f, g, c, clk, 0, false, le) 0 (by omega) rfl hθ ⟨rfl, by omega, fun q => by cases q⟩ rfl
  refine ⟨ρ, a1.1, a1.2.1, ?_, fun j hj q => a4 j (by omega) hj q⟩
  rcases a3 with q | q
  · rw [q]
    exact ⟨totT θ, totT_ext θ, fun s hs ⟨m, m1, m2, _⟩ => absurd m2 (by omega), fun m m1 m2 => absurd m2 (by omega)⟩
  · exact q.2
end REACH
