/-! settling: RULES that ran, rounds, layers -/
section JUDGE3
variable {F : Nat → Bool} {V : Nat → RV} {rc : Nat} {U : Nat → Bool} {nt : Nat} {L : Nat → Nat} {s : Nat → Option Nat} {cs : Bool}
/-- what the RULE leads to is there -/
def clsd (V : Nat → RV) (nt : Nat) (cs : Bool) (r : Nat) (σ : JS) : Prop := ∀ τ, okT (V r) nt τ → (∀ j, j < (V r).2.2.1 → tmHold ((V r).2.1 j) τ (rowS σ.1)) → cpOk (V r) cs τ σ (bdM (V r) τ σ.2.1 (V r).2.2.1 0 0)
def snap (V : Nat → RV) (nt : Nat) (cs : Bool) (U : Nat → Bool) (L : Nat → Nat) (l : Nat) (σ : JS) (q : Int32) (r : Nat) : Prop := q = -1 ∨ (0 ≤ q ∧ q ≤ σ.2.2.2.1 ∧ L (rvH (V r)) ≤ l ∧ ((∀ j, j < (V r).2.2.1 → (V r).2.1 j 0 = 0 → ¬ q < σ.2.2.1 (rvK (V r) j)) → clsd V nt cs r σ))
theorem bdM_le {v : RV} {τ : Nat → Nat} {g : Nat → Int32} {B : Int32} : ∀ (n i : Nat) {high : Int32}, high ≤ B → 0 ≤ B → (∀ j, i ≤ j → j < i + n → v.2.1 j 0 = 0 → g (nmT (v.2.1 j) τ) ≤ B) → bdM v τ g n i high ≤ B
  | 0, _, _, h, _, _ => h
  | n + 1, i, high, h, h0, hg => by
    refine bdM_le n (i + 1) (imax_le h ?_) h0 (fun j h1 h2 => hg j (by omega) (by omega))
    by_cases e : v.2.1 i 0 = 0
    · rw [if_pos e]; exact hg i (by omega) (by omega) e
    · rw [if_neg e]; exact h0
theorem bdM_cong {v : RV} {τ : Nat → Nat} {g g' : Nat → Int32} : ∀ (n i : Nat) {high : Int32}, (∀ j, i ≤ j → j < i + n → v.2.1 j 0 = 0 → g (nmT (v.2.1 j) τ) = g' (nmT (v.2.1 j) τ)) → bdM v τ g n i high = bdM v τ g' n i high
  | 0, _, _, _ => rfl
  | n + 1, i, high, hg => by
    show bdM v τ g n (i + 1) _ = bdM v τ g' n (i + 1) _
    by_cases e : v.2.1 i 0 = 0
    · rw [if_pos e, if_pos e, hg i (by omega) (by omega) e]
      exact bdM_cong n (i + 1) (fun j h1 h2 => hg j (by omega) (by omega))
    · rw [if_neg e, if_neg e]
      exact bdM_cong n (i + 1) (fun j h1 h2 => hg j (by omega) (by omega))
/-- no ATOM TERM's KIND has changed -/
theorem same_cls (hVa : ∀ r, r < rc → okRl nt (V r)) (hn : nt ≤ 10) (hS : Sat V rc L) {l k r : Nat} {σ ρ : JS} (hr : r < rc) (hk : L k = l) (hl : L (rvH (V r)) ≤ l) (ht : tick σ ρ) (hg : grow cs k σ ρ) (hc : ∀ j, j < (V r).2.2.1 → (V r).2.1 j 0 = 0 → ¬ σ.2.2.2.1 < ρ.2.2.1 (rvK (V r) j)) (h : ∀ τ, okT (V r) nt τ → (∀ j, j < (V r).2.2.1 → tmHold ((V r).2.1 j) τ (rowS σ.1)) → cpOk (V r) cs τ ρ (bdM (V r) τ σ.2.1 (V r).2.2.1 0 0)) : clsd V nt cs r ρ := by
  have hv := hVa r hr
  intro τ hτ hh
  have hsm : ∀ j, j < (V r).2.2.1 → (V r).2.1 j 0 = 0 → rowS ρ.1 (nmT ((V r).2.1 j) τ) = rowS σ.1 (nmT ((V r).2.1 j) τ) ∧ ρ.2.1 (nmT ((V r).2.1 j) τ) = σ.2.1 (nmT ((V r).2.1 j) τ) := fun j hj t0 => by
    obtain ⟨n1, n2⟩ := nm_lt hv hn hτ hj (by rw [t0]; decide)
    exact ((ht.2 (rvK (V r) j)).resolve_right (hc j hj t0)).2 _ n1 n2
  have h1 := h τ hτ (fun j hj => by
    have h9 := hh j hj
    by_cases t2 : (V r).2.1 j 0 = 2
    · rw [hold_2 t2] at h9 ⊢; exact h9
    · obtain ⟨n1, n2⟩ := nm_lt hv hn hτ hj t2
      by_cases t0 : (V r).2.1 j 0 = 0
      · rw [hold_0 t0] at h9 ⊢; rw [← (hsm j hj t0).1]; exact h9
      · have t1 := ty_cases hv hj t2 t0
        have hk9 := sat_kind hS hr hj t2
        rw [if_pos t1] at hk9
        rw [hold_1 t1] at h9 ⊢
        rw [← (hg.2.2.2 _ n1 (by rw [n2]; intro e; have e : rvK (V r) j = k := e; rw [e] at hk9; omega)).1]
        exact h9)
  rw [bdM_cong _ _ (fun j _ hj t0 => (hsm j (by omega) t0).2)]
  exact h1
theorem snap_fire (hVa : ∀ r, r < rc → okRl nt (V r)) (hn : nt ≤ 10) (hS : Sat V rc L) {l k r : Nat} {σ ρ : JS} {q : Int32} (hr : r < rc) (hk : L k = l) (ht : tick σ ρ) (hg : grow cs k σ ρ) (h : snap V nt cs U L l σ q r) : snap V nt cs U L l ρ q r := by
  rcases h with h | ⟨h1, h2, h3, h4⟩
  · exact Or.inl h
  · refine Or.inr ⟨h1, Int32.le_trans h2 ht.1, h3, fun hc => ?_⟩
    have hc2 : ∀ j, j < (V r).2.2.1 → (V r).2.1 j 0 = 0 → ¬ σ.2.2.2.1 < ρ.2.2.1 (rvK (V r) j) := fun j hj t0 z => hc j hj t0 (by
      rw [Int32.lt_iff_toInt_lt] at z ⊢
      rw [Int32.le_iff_toInt_le] at h2
      omega)
    have hcl := h4 (fun j hj t0 => by
      rw [← ((ht.2 (rvK (V r) j)).resolve_right (hc2 j hj t0)).1]
      exact hc j hj t0)
    refine same_cls hVa hn hS hr hk h3 ht hg hc2 (fun τ hτ hh => ?_)
    exact cp_grow (head_k (hVa r hr) hn hτ).1 hg (hcl τ hτ hh)
theorem snap_self (hVa : ∀ r, r < rc → okRl nt (V r)) (hn : nt ≤ 10) (hS : Sat V rc L) {l r : Nat} {σ ρ : JS} (hr : r < rc) (hl : L (rvH (V r)) = l) (hb : bsI F L s cs l σ) (ht : tick σ ρ) (hg : grow cs (rvH (V r)) σ ρ) (h : ∀ τ, okT (V r) nt τ → (∀ j, j < (V r).2.2.1 → tmHold ((V r).2.1 j) τ (rowS σ.1)) → cpOk (V r) cs τ ρ (bdM (V r) τ σ.2.1 (V r).2.2.1 0 0)) : snap V nt cs U L l ρ σ.2.2.2.1 r :=
  Or.inr ⟨hb.2.2.2.1.1, ht.1, Nat.le_of_eq hl, fun hc => same_cls hVa hn hS hr hl (Nat.le_of_eq hl) ht hg hc h⟩
theorem snap_up {l r : Nat} {σ : JS} {q : Int32} (h : snap V nt cs U L l σ q r) : snap V nt cs U L (l + 1) σ q r := by
  rcases h with h | ⟨h1, h2, h3, h4⟩
  · exact Or.inl h
  · exact Or.inr ⟨h1, h2, by omega, h4⟩
/-- sound and few enough: that is it -/
theorem fin_of {l n d : Nat} {σ : JS} (hb : bsI F L s cs l σ) (hn : n < 1000) (hd : s n = some d) (h1 : rowS σ.1 n = true) (h2 : cs = true → σ.2.1 n ≤ nI d) : fin1 cs s σ n d := by
  refine ⟨h1, fun c => ?_⟩
  obtain ⟨e, e1, e2⟩ := hb.2.1 n hn h1
  rw [hd] at e1
  cases e1
  exact Int32.le_antisymm (h2 c) (e2 c)
theorem fin_grow {l n d k : Nat} {σ ρ : JS} (hb : bsI F L s cs l ρ) (hg : grow cs k σ ρ) (hn : n < 1000) (hd : s n = some d) (h : fin1 cs s σ n d) : fin1 cs s ρ n d :=
  fin_of hb hn hd (hg.2.2.1 n hn h.1).1 (fun c => by rw [← h.2 c]; exact (hg.2.2.1 n hn h.1).2 c)
/-- led to by TERMS that are there -/
theorem led_fin (hs : IsSt F V rc U nt s) (hVa : ∀ r, r < rc → okRl nt (V r)) (hn : nt ≤ 10) (hS : Sat V rc L) {l r n d : Nat} {σ ρ : JS} (hr : r < rc) (hl : L (rvH (V r)) = l) (hbσ : bsI F L s cs l σ) (hbρ : bsI F L s cs l ρ) (hlow : ∀ m e, m < 1000 → L (m / 100) = l → s m = some e → e < d → fin1 cs s σ m e) (h : ∀ τ, okT (V r) nt τ → (∀ j, j < (V r).2.2.1 → tmHold ((V r).2.1 j) τ (rowS σ.1)) → cpOk (V r) cs τ ρ (bdM (V r) τ σ.2.1 (V r).2.2.1 0 0)) (hd : s n = some d) (hled : ledBy (V r) nt s n d) : fin1 cs s ρ n d := by
  obtain ⟨τ, hτ, hh, rfl, hp, hi⟩ := hled
  have hv := hVa r hr
  have n9 := (head_k hv hn hτ).1
  have hd9 := st_le hVa hn hs n9 hd
  have hfin : ∀ j, j < (V r).2.2.1 → (V r).2.1 j 0 = 0 → ∃ e, e < d ∧ fin1 cs s σ (nmT ((V r).2.1 j) τ) e := fun j hj t0 => by
    have t2 : ¬ (V r).2.1 j 0 = 2 := by rw [t0]; decide
    obtain ⟨n1, n2⟩ := nm_lt hv hn hτ hj t2
    obtain ⟨e, e1, e2⟩ := hi j hj t0
    have hk := sat_kind hS hr hj t2
    refine ⟨e, e2, ?_⟩
    rcases Nat.lt_or_ge (L (rvK (V r) j)) l with q | q
    · exact hbσ.2.2.1 _ e n1 e1 (Or.inr (by rw [n2]; exact q))
    · exact hlow _ e n1 (by rw [n2]; show L (rvK (V r) j) = l; omega) e1 e2
  have hc := h τ hτ (fun j hj => by
    have h9 := hh j hj
    by_cases t2 : (V r).2.1 j 0 = 2
    · rw [hold_2 t2] at h9 ⊢; exact h9
    · obtain ⟨n1, n2⟩ := nm_lt hv hn hτ hj t2
      by_cases t0 : (V r).2.1 j 0 = 0
      · rw [hold_0 t0]
        obtain ⟨e, -, e2⟩ := hfin j hj t0
        exact e2.1
      · have t1 := ty_cases hv hj t2 t0
        rw [hold_1 t1] at h9 ⊢
        have h9 : (s (nmT ((V r).2.1 j) τ)).isSome = false := h9
        cases e : rowS σ.1 (nmT ((V r).2.1 j) τ) with
        | false => rfl
        | true =>
          obtain ⟨x, x1, -⟩ := hbσ.2.1 _ n1 e
          rw [x1] at h9; cases h9)
  refine fin_of hbρ n9 hd hc.1 (fun c => ?_)
  have hB : bdM (V r) τ σ.2.1 (V r).2.2.1 0 0 ≤ nI (d - 1) := bdM_le _ _ (nI_le (show 0 ≤ d - 1 by omega) (by omega)) (nI_le (show 0 ≤ d - 1 by omega) (by omega)) (fun j _ hj t0 => by
    obtain ⟨e, e1, e2⟩ := hfin j (by omega) t0
    rw [e2.2 c]
    exact nI_le (by omega) (by omega))
  have hB0 : 0 ≤ bdM (V r) τ σ.2.1 (V r).2.2.1 0 0 := by
    have := bdM_mono (v := V r) (τ := τ) (g := fun _ => 0) (g' := σ.2.1) (V r).2.2.1 0 (Int32.le_refl 0) (fun j _ hj t0 => by
      obtain ⟨e, e1, e2⟩ := hfin j (by omega) t0
      rw [e2.2 c]
      exact nI_le (show 0 ≤ e by omega) (by omega))
    refine Int32.le_trans ?_ this
    have hz : ∀ n i, bdM (V r) τ (fun _ => 0) n i 0 = 0 := by
      intro n
      induction n with
      | zero => exact fun _ => rfl
      | succ n ih =>
        intro i
        show bdM (V r) τ (fun _ => 0) n (i + 1) (imax 0 (if (V r).2.1 i 0 = 0 then 0 else 0)) = 0
        rw [ite_self]
        exact ih (i + 1)
    rw [hz]
    exact Int32.le_refl _
  have h8 := add1_mono hB hB0 (nI_le (show d - 1 ≤ 1000 by omega) (by omega))
  have h7 : nI (d - 1) + 1 = nI d := by rw [show nI (d - 1) + 1 = nI (d - 1 + 1) from nI_add _ 1, show d - 1 + 1 = d by omega]
  rw [h7] at h8
  exact Int32.le_trans (hc.2 c) h8
/-- a round: what is final -/
def rdI (V : Nat → RV) (rc : Nat) (U : Nat → Bool) (nt : Nat) (L : Nat → Nat) (s : Nat → Option Nat) (cs : Bool) (l t r : Nat) (b : Bool) (σ : JS) : Prop :=
  (∀ n d, n < 1000 → L (n / 100) = l → s n = some d → d ≤ t → fin1 cs s σ n d) ∧
  (∀ n, n < 1000 → L (n / 100) = l → s n = some (t + 1) → (∃ r', r' < r ∧ r' < rc ∧ U r' = true ∧ ledBy (V r') nt s n (t + 1)) → fin1 cs s σ n (t + 1)) ∧
  (b = false → ∀ r', r' < r → r' < rc → U r' = true → L (rvH (V r')) = l → clsd V nt cs r' σ)
theorem rd_skip (hVa : ∀ r, r < rc → okRl nt (V r)) (hn : nt ≤ 10) {l t r : Nat} {b : Bool} {σ : JS} (h : rdI V rc U nt L s cs l t r b σ) (hno : ¬ (U r = true ∧ L (rvH (V r)) = l)) : rdI V rc U nt L s cs l t (r + 1) b σ := by
  refine ⟨h.1, fun n hn9 hl hd ⟨r', h1, h2, h3, h4⟩ => ?_, fun hb r' h1 h2 h3 h4 => ?_⟩
  · by_cases e : r' = r
    · subst e
      obtain ⟨τ, hτ, -, e, -⟩ := h4
      exact absurd ⟨h3, by rw [← (head_k (hVa r' h2) hn hτ).2, e]; exact hl⟩ hno
    · exact h.2.1 n hn9 hl hd ⟨r', by omega, h2, h3, h4⟩
  · by_cases e : r' = r
    · subst e; exact absurd ⟨h3, h4⟩ hno
    · exact h.2.2 hb r' (by omega) h2 h3 h4
theorem rd_not (hs : IsSt F V rc U nt s) (hVa : ∀ r, r < rc → okRl nt (V r)) (hn : nt ≤ 10) (hS : Sat V rc L) {l t r : Nat} {b : Bool} {σ : JS} (hr : r < rc) (hl9 : L (rvH (V r)) = l) (hb : bsI F L s cs l σ) (h : rdI V rc U nt L s cs l t r b σ) (hc : clsd V nt cs r σ) : rdI V rc U nt L s cs l t (r + 1) b σ := by
  refine ⟨h.1, fun n hn9 hl hd ⟨r', h1, h2, h3, h4⟩ => ?_, fun hb r' h1 h2 h3 h4 => ?_⟩
  · by_cases e : r' = r
    · subst e
      exact led_fin hs hVa hn hS hr hl9 hb hb (fun m e m1 m2 m3 m4 => h.1 m e m1 m2 m3 (by omega)) hc hd h4
    · exact h.2.1 n hn9 hl hd ⟨r', by omega, h2, h3, h4⟩
  · by_cases e : r' = r
    · subst e; exact hc
    · exact h.2.2 hb r' (by omega) h2 h3 h4
theorem rd_fire (hs : IsSt F V rc U nt s) (hVa : ∀ r, r < rc → okRl nt (V r)) (hn : nt ≤ 10) (hS : Sat V rc L) {l t r k : Nat} {b : Bool} {σ ρ : JS} (hr : r < rc) (hl9 : L (rvH (V r)) = l) (hbσ : bsI F L s cs l σ) (hbρ : bsI F L s cs l ρ) (hg : grow cs k σ ρ) (h : rdI V rc U nt L s cs l t r b σ) (hc : ∀ τ, okT (V r) nt τ → (∀ j, j < (V r).2.2.1 → tmHold ((V r).2.1 j) τ (rowS σ.1)) → cpOk (V r) cs τ ρ (bdM (V r) τ σ.2.1 (V r).2.2.1 0 0)) : rdI V rc U nt L s cs l t (r + 1) true ρ := by
  refine ⟨fun n d h1 h2 h3 h4 => fin_grow hbρ hg h1 h3 (h.1 n d h1 h2 h3 h4), fun n hn9 hl hd ⟨r', h1, h2, h3, h4⟩ => ?_, fun q => by cases q⟩
  by_cases e : r' = r
  · subst e
    exact led_fin hs hVa hn hS hr hl9 hbσ hbρ (fun m e m1 m2 m3 m4 => h.1 m e m1 m2 m3 (by omega)) hc hd h4
  · exact fin_grow hbρ hg hn9 hd (h.2.1 n hn9 hl hd ⟨r', by omega, h2, h3, h4⟩)
theorem rd_begin {l t : Nat} {σ : JS} (h : ∀ n d, n < 1000 → L (n / 100) = l → s n = some d → d ≤ t → fin1 cs s σ n d) : rdI V rc U nt L s cs l t 0 false σ :=
  ⟨h, fun n _ _ _ ⟨r', h1, _⟩ => absurd h1 (by omega), fun _ r' h1 => absurd h1 (by omega)⟩
theorem rd_end (hs : IsSt F V rc U nt s) {l t : Nat} {b : Bool} {σ : JS} (hb : bsI F L s cs l σ) (h : rdI V rc U nt L s cs l t rc b σ) : ∀ n d, n < 1000 → L (n / 100) = l → s n = some d → d ≤ t + 1 → fin1 cs s σ n d := by
  intro n d h1 h2 h3 h4
  rcases Nat.lt_or_ge t d with q | q
  · have e : d = t + 1 := by omega
    subst e
    rcases hs.2.2 n _ h1 h3 with z | ⟨r, r1, r2, r3⟩
    · rw [hs.1 n h1 z] at h3; injection h3 with h3; omega
    · exact h.2.1 n h1 h2 h3 ⟨r, r1, r1, r2, r3⟩
  · exact h.1 n d h1 h2 h3 q
theorem lay_up {l : Nat} {σ : JS} (hb : bsI F L s cs l σ) (h : ∀ n d, n < 1000 → L (n / 100) = l → s n = some d → fin1 cs s σ n d) : bsI F L s cs (l + 1) σ := by
  refine ⟨hb.1, hb.2.1, fun n d h1 h2 h3 => ?_, hb.2.2.2⟩
  rcases h3 with q | q
  · exact hb.2.2.1 n d h1 h2 (Or.inl q)
  · by_cases e : L (n / 100) = l
    · exact h n d h1 e h2
    · exact hb.2.2.1 n d h1 h2 (Or.inr (by omega))
theorem lay_quiet (hs : IsSt F V rc U nt s) (hVa : ∀ r, r < rc → okRl nt (V r)) (hn : nt ≤ 10) (hS : Sat V rc L) {l t : Nat} {σ : JS} (hb : bsI F L s cs l σ) (h : rdI V rc U nt L s cs l t rc false σ) : ∀ n d, n < 1000 → L (n / 100) = l → s n = some d → fin1 cs s σ n d := by
  intro n d
  induction d using Nat.strongRecOn generalizing n with
  | _ d ih =>
    intro h1 h2 h3
    rcases hs.2.2 n d h1 h3 with z | ⟨r, r1, r2, r3⟩
    · exact hb.2.2.1 n d h1 h3 (Or.inl z)
    · have hl : L (rvH (V r)) = l := by
        obtain ⟨τ, hτ, -, e, -⟩ := r3
        rw [← (head_k (hVa r r1) hn hτ).2, e]; exact h2
      exact led_fin hs hVa hn hS r1 hl hb hb (fun m e m1 m2 m3 m4 => ih e m4 m m1 m2 m3) (h.2.2 rfl r r1 r1 r2 hl) h3 r3
/-- all is there -/
theorem lay_all (hs : IsSt F V rc U nt s) (hVa : ∀ r, r < rc → okRl nt (V r)) (hn : nt ≤ 10) {l : Nat} {σ : JS} (hb : bsI F L s cs l σ) (hh : ∀ r, r < rc → L (rvH (V r)) < l) : ∀ n d, n < 1000 → s n = some d → fin1 cs s σ n d := by
  intro n d h1 h3
  rcases hs.2.2 n d h1 h3 with z | ⟨r, r1, r2, τ, hτ, -, e, -⟩
  · exact hb.2.2.1 n d h1 h3 (Or.inl z)
  · refine hb.2.2.1 n d h1 h3 (Or.inr ?_)
    rw [← e, (head_k (hVa r r1) hn hτ).2]
    exact hh r r1
end JUDGE3
