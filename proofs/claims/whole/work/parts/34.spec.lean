/-! what FOLLOWS, and by how many STEPS: the numbers that both sides come to -/
def holdS (v : RV) (τ : Nat → Nat) (s : Nat → Option Nat) : Prop := ∀ j, j < v.2.2.1 → tmHold (v.2.1 j) τ (fun n => (s n).isSome)
def ledBy (v : RV) (nt : Nat) (s : Nat → Option Nat) (n d : Nat) : Prop := ∃ τ, okT v nt τ ∧ holdS v τ s ∧ nmT v.1 τ = n ∧ 0 < d ∧ ∀ j, j < v.2.2.1 → v.2.1 j 0 = 0 → ∃ e, s (nmT (v.2.1 j) τ) = some e ∧ e < d
/-- FACTS F, RULES V so many, those that count U: the STEPS s -/
def IsSt (F : Nat → Bool) (V : Nat → RV) (rc : Nat) (U : Nat → Bool) (nt : Nat) (s : Nat → Option Nat) : Prop :=
  (∀ n, n < 1000 → F n = true → s n = some 0) ∧
  (∀ r τ e, r < rc → U r = true → okT (V r) nt τ → holdS (V r) τ s → (∀ j, j < (V r).2.2.1 → (V r).2.1 j 0 = 0 → ∃ d, s (nmT ((V r).2.1 j) τ) = some d ∧ d ≤ e) → ∃ d, s (nmT (V r).1 τ) = some d ∧ d ≤ e + 1) ∧
  (∀ n d, n < 1000 → s n = some d → F n = true ∨ ∃ r, r < rc ∧ U r = true ∧ ledBy (V r) nt s n d)
/-- by the RULES of the KINDS below layer l alone -/
def IsStL (F : Nat → Bool) (V : Nat → RV) (rc : Nat) (U : Nat → Bool) (nt : Nat) (L : Nat → Nat) (l : Nat) (s : Nat → Option Nat) : Prop :=
  (∀ n, n < 1000 → F n = true → s n = some 0) ∧
  (∀ r τ e, r < rc → U r = true → L (rvH (V r)) < l → okT (V r) nt τ → holdS (V r) τ s → (∀ j, j < (V r).2.2.1 → (V r).2.1 j 0 = 0 → ∃ d, s (nmT ((V r).2.1 j) τ) = some d ∧ d ≤ e) → ∃ d, s (nmT (V r).1 τ) = some d ∧ d ≤ e + 1) ∧
  (∀ n d, n < 1000 → s n = some d → F n = true ∨ (L (n / 100) < l ∧ ∃ r, r < rc ∧ U r = true ∧ ledBy (V r) nt s n d))
def drv (F : Nat → Bool) (V : Nat → RV) (rc : Nat) (U : Nat → Bool) (nt : Nat) (L : Nat → Nat) (l : Nat) (B : Nat → Option Nat) : Nat → Nat → Prop
  | 0, a => F a = true
  | n + 1, a => drv F V rc U nt L l B n a ∨ ∃ r τ, r < rc ∧ U r = true ∧ L (rvH (V r)) = l ∧ okT (V r) nt τ ∧ nmT (V r).1 τ = a ∧ ∀ j, j < (V r).2.2.1 → ((V r).2.1 j 0 = 2 → thT ((V r).2.1 j 2) τ ≠ thT ((V r).2.1 j 3) τ) ∧ ((V r).2.1 j 0 = 0 → (L (rvK (V r) j) < l ∧ ∃ d, B (nmT ((V r).2.1 j) τ) = some d ∧ d ≤ n) ∨ (L (rvK (V r) j) = l ∧ drv F V rc U nt L l B n (nmT ((V r).2.1 j) τ))) ∧ ((V r).2.1 j 0 = 1 → B (nmT ((V r).2.1 j) τ) = none)
theorem least_of {p : Nat → Prop} : ∀ {n : Nat}, p n → ∃ m, m ≤ n ∧ p m ∧ ∀ k, k < m → ¬ p k := by
  intro n
  induction n using Nat.strongRecOn with
  | _ n ih =>
    intro h
    rcases Classical.em (∃ k, k < n ∧ p k) with ⟨k, hk, pk⟩ | q
    · obtain ⟨m, m1, m2, m3⟩ := ih k hk pk
      exact ⟨m, by omega, m2, m3⟩
    · exact ⟨n, Nat.le_refl _, h, fun k hk pk => q ⟨k, hk, pk⟩⟩
section SPEC
variable {F : Nat → Bool} {V : Nat → RV} {rc : Nat} {U : Nat → Bool} {nt : Nat} {L : Nat → Nat}
theorem drv_mono {l : Nat} {B : Nat → Option Nat} {n m a : Nat} (h : n ≤ m) (hd : drv F V rc U nt L l B n a) : drv F V rc U nt L l B m a := by
  induction m with
  | zero => rw [show n = 0 by omega] at hd; exact hd
  | succ m ih =>
    rcases Nat.lt_or_ge m n with e | e
    · rw [show n = m + 1 by omega] at hd; exact hd
    · exact Or.inl (ih e)
theorem ty_cases {v : RV} {nt j : Nat} (hv : okRl nt v) (hj : j < v.2.2.1) (h2 : ¬ v.2.1 j 0 = 2) (h0 : ¬ v.2.1 j 0 = 0) : v.2.1 j 0 = 1 := by
  rcases (hv.2.1 j hj).1 with q | q | q
  · exact absurd q h0
  · exact q
  · exact absurd q h2
theorem hold_2 {t : Nat → Int32} {τ : Nat → Nat} {S : Nat → Bool} (h : t 0 = 2) : tmHold t τ S ↔ thT (t 2) τ ≠ thT (t 3) τ := by unfold tmHold; rw [if_pos h]
theorem hold_0 {t : Nat → Int32} {τ : Nat → Nat} {S : Nat → Bool} (h : t 0 = 0) : tmHold t τ S ↔ S (nmT t τ) = true := by unfold tmHold; rw [if_neg (by rw [h]; decide), if_pos h]
theorem hold_1 {t : Nat → Int32} {τ : Nat → Nat} {S : Nat → Bool} (h : t 0 = 1) : tmHold t τ S ↔ S (nmT t τ) = false := by unfold tmHold; rw [if_neg (by rw [h]; decide), if_neg (by rw [h]; decide)]
theorem hold_cong {t : Nat → Int32} {τ : Nat → Nat} {S S' : Nat → Bool} (h : ¬ t 0 = 2 → S (nmT t τ) = S' (nmT t τ)) (hh : tmHold t τ S) : tmHold t τ S' := by
  unfold tmHold at hh ⊢
  by_cases h2 : t 0 = 2
  · rw [if_pos h2] at hh ⊢; exact hh
  · rw [if_neg h2] at hh ⊢; rw [← h h2]; exact hh
theorem head_k {v : RV} {τ : Nat → Nat} (hv : okRl nt v) (hn : nt ≤ 10) (h : okT v nt τ) : nmT v.1 τ < 1000 ∧ nmT v.1 τ / 100 = rvH v := by
  refine ⟨nmH_lt hv hn h, (nmT_k (t := v.1) (τ := τ) hv.2.2.2.1 hv.2.2.2.2.1 hn (fun s hs q => ?_)).1⟩
  have := h s hs (hv.2.2.2.2.2 s hs q)
  omega
theorem sat_kind (hS : Sat V rc L) {r j : Nat} (hr : r < rc) (hj : j < (V r).2.2.1) (h2 : ¬ (V r).2.1 j 0 = 2) : L (rvK (V r) j) + (if (V r).2.1 j 0 = 1 then 1 else 0) ≤ L (rvH (V r)) := lfor_le.mp (hS r hr) j hj h2
theorem st_next (hV : ∀ r, r < rc → okRl nt (V r)) (hn : nt ≤ 10) (hS : Sat V rc L) {l : Nat} {s : Nat → Option Nat} (h : IsStL F V rc U nt L l s) : ∃ s', IsStL F V rc U nt L (l + 1) s' := by
  have hch : ∀ a, ∃ o : Option Nat, (L (a / 100) ≠ l → o = s a) ∧ (L (a / 100) = l → (∀ d, o = some d → drv F V rc U nt L l s d a ∧ ∀ k, k < d → ¬ drv F V rc U nt L l s k a) ∧ (o = none → ∀ k, ¬ drv F V rc U nt L l s k a)) := by
    intro a
    by_cases e : L (a / 100) = l
    · rcases Classical.em (∃ n, drv F V rc U nt L l s n a) with ⟨n, hn⟩ | q
      · obtain ⟨m, -, m2, m3⟩ := least_of (p := fun n => drv F V rc U nt L l s n a) hn
        exact ⟨some m, fun q => absurd e q, fun _ => ⟨fun d hd => by cases hd; exact ⟨m2, m3⟩, fun q => by cases q⟩⟩
      · exact ⟨none, fun q => absurd e q, fun _ => ⟨fun d hd => (by cases hd), fun _ k hk => q ⟨k, hk⟩⟩⟩
    · exact ⟨s a, fun _ => rfl, fun q => absurd q e⟩
  obtain ⟨s', hsp⟩ := Classical.axiomOfChoice hch
  refine ⟨s', ?_⟩
  have key : ∀ a m, L (a / 100) = l → drv F V rc U nt L l s m a → ∃ d, s' a = some d ∧ d ≤ m := by
    intro a m e hm
    cases q : s' a with
    | none => exact absurd hm (((hsp a).2 e).2 q m)
    | some d =>
      refine ⟨d, rfl, ?_⟩
      rcases Nat.lt_or_ge m d with z | z
      · exact absurd hm ((((hsp a).2 e).1 d q).2 m z)
      · exact z
  refine ⟨fun n hn9 hF => ?_, fun r τ e hr hU hl hτ hh hi => ?_, fun n d hn9 hd => ?_⟩
  · by_cases e : L (n / 100) = l
    · obtain ⟨d, d1, d2⟩ := key n 0 e hF
      rw [d1, show d = 0 by omega]
    · rw [(hsp n).1 e]; exact h.1 n hn9 hF
  · have hv := hV r hr
    have hhd := head_k hv hn hτ
    have hnm : ∀ j, j < (V r).2.2.1 → ¬ (V r).2.1 j 0 = 2 → nmT ((V r).2.1 j) τ / 100 = rvK (V r) j := fun j hj h2 => (nm_lt hv hn hτ hj h2).2
    rcases Nat.lt_or_ge (L (rvH (V r))) l with hlt | hge
    · have hsame : ∀ j, j < (V r).2.2.1 → ¬ (V r).2.1 j 0 = 2 → s' (nmT ((V r).2.1 j) τ) = s (nmT ((V r).2.1 j) τ) := fun j hj h2 => (hsp _).1 (by
        rw [hnm j hj h2]
        have := sat_kind hS hr hj h2
        omega)
      rw [(hsp _).1 (by rw [hhd.2]; omega)]
      refine h.2.1 r τ e hr hU hlt hτ (fun j hj => ?_) (fun j hj h0 => ?_)
      · have h9 := hh j hj
        exact hold_cong (fun t2 => by show (s' _).isSome = (s _).isSome; rw [hsame j hj t2]) h9
      · rw [← hsame j hj (by rw [h0]; decide)]; exact hi j hj h0
    · have hl : L (rvH (V r)) = l := by omega
      refine key _ (e + 1) (by rw [hhd.2]; exact hl) (Or.inr ⟨r, τ, hr, hU, hl, hτ, rfl, fun j hj => ⟨fun t2 => (hold_2 t2).mp (hh j hj), fun t0 => ?_, fun t1 => ?_⟩⟩)
      · have h2 : ¬ (V r).2.1 j 0 = 2 := by rw [t0]; decide
        have hk := sat_kind hS hr hj h2
        obtain ⟨d, d1, d2⟩ := hi j hj t0
        rcases Nat.lt_or_ge (L (rvK (V r) j)) l with q | q
        · refine Or.inl ⟨q, d, ?_, d2⟩
          rw [← d1]
          exact ((hsp _).1 (by rw [hnm j hj h2]; omega)).symm
        · have q : L (rvK (V r) j) = l := by omega
          exact Or.inr ⟨q, drv_mono d2 ((((hsp _).2 (by rw [hnm j hj h2]; exact q)).1 d d1).1)⟩
      · have h2 : ¬ (V r).2.1 j 0 = 2 := by rw [t1]; decide
        have hk := sat_kind hS hr hj h2
        rw [if_pos t1] at hk
        have h9 := (hold_1 t1).mp (hh j hj)
        rw [← (hsp _).1 (by rw [hnm j hj h2]; omega)]
        simpa using h9
  · by_cases e : L (n / 100) = l
    · obtain ⟨hd1, hd2⟩ := ((hsp n).2 e).1 d hd
      cases d with
      | zero => exact Or.inl hd1
      | succ m =>
        rcases hd1 with q | ⟨r, τ, hr, hU, hl, hτ, ha, hj⟩
        · exact absurd q (hd2 m (by omega))
        · have hv := hV r hr
          have hnm : ∀ j, j < (V r).2.2.1 → ¬ (V r).2.1 j 0 = 2 → nmT ((V r).2.1 j) τ / 100 = rvK (V r) j := fun j hj h2 => (nm_lt hv hn hτ hj h2).2
          have his : ∀ j, j < (V r).2.2.1 → (V r).2.1 j 0 = 0 → ∃ x, s' (nmT ((V r).2.1 j) τ) = some x ∧ x < m + 1 := by
            intro j hj9 t0
            have h2 : ¬ (V r).2.1 j 0 = 2 := by rw [t0]; decide
            rcases (hj j hj9).2.1 t0 with ⟨q, x, x1, x2⟩ | ⟨q, x⟩
            · refine ⟨x, ?_, by omega⟩
              rw [← x1]
              exact (hsp _).1 (by rw [hnm j hj9 h2]; omega)
            · obtain ⟨y, y1, y2⟩ := key _ m (by rw [hnm j hj9 h2]; exact q) x
              exact ⟨y, y1, by omega⟩
          refine Or.inr ⟨by omega, r, hr, hU, τ, hτ, fun j hj9 => ?_, ha, Nat.succ_pos _, his⟩
          by_cases t2 : (V r).2.1 j 0 = 2
          · exact (hold_2 t2).mpr ((hj j hj9).1 t2)
          · by_cases t0 : (V r).2.1 j 0 = 0
            · rw [hold_0 t0]
              obtain ⟨x, x1, -⟩ := his j hj9 t0
              show (s' _).isSome = true
              rw [x1]; rfl
            · have t1 := ty_cases hv hj9 t2 t0
              have hk := sat_kind hS hr hj9 t2
              rw [if_pos t1] at hk
              rw [hold_1 t1]
              show (s' _).isSome = false
              rw [(hsp _).1 (by rw [hnm j hj9 t2]; omega), (hj j hj9).2.2 t1]; rfl
    · rw [(hsp n).1 e] at hd
      rcases h.2.2 n d hn9 hd with q | ⟨q, r, hr, hU, τ, hτ, hh, ha, hp, hi⟩
      · exact Or.inl q
      · have hv := hV r hr
        have hhd := head_k hv hn hτ
        have hl : L (rvH (V r)) < l := by rw [← hhd.2, ha]; exact q
        have hsame : ∀ j, j < (V r).2.2.1 → ¬ (V r).2.1 j 0 = 2 → s' (nmT ((V r).2.1 j) τ) = s (nmT ((V r).2.1 j) τ) := fun j hj h2 => (hsp _).1 (by
          rw [(nm_lt hv hn hτ hj h2).2]
          have := sat_kind hS hr hj h2
          show L (rvK (V r) j) ≠ l
          omega)
        refine Or.inr ⟨by omega, r, hr, hU, τ, hτ, fun j hj => ?_, ha, hp, fun j hj h0 => ?_⟩
        · have h9 := hh j hj
          exact hold_cong (fun t2 => by show (s _).isSome = (s' _).isSome; rw [hsame j hj t2]) h9
        · rw [hsame j hj (by rw [h0]; decide)]; exact hi j hj h0
theorem st_exists (hV : ∀ r, r < rc → okRl nt (V r)) (hn : nt ≤ 10) (hS : Sat V rc L) (hL : ∀ k, L k ≤ 9) : ∃ s, IsSt F V rc U nt s := by
  have h : ∀ l, ∃ s, IsStL F V rc U nt L l s := by
    intro l
    induction l with
    | zero =>
      refine ⟨fun n => if F n = true then some 0 else none, fun n _ hF => if_pos hF, fun r τ e _ _ hl => absurd hl (by omega), fun n d _ hd => Or.inl ?_⟩
      by_cases q : F n = true
      · exact q
      · have hd : (if F n = true then some 0 else none) = some d := hd
        rw [if_neg q] at hd; cases hd
    | succ l ih =>
      obtain ⟨s, hs⟩ := ih
      exact st_next hV hn hS hs
  obtain ⟨s, h1, h2, h3⟩ := h 10
  refine ⟨s, h1, fun r τ e hr hU hτ hh hi => h2 r τ e hr hU (by have := hL (rvH (V r)); omega) hτ hh hi, fun n d hn9 hd => ?_⟩
  rcases h3 n d hn9 hd with q | ⟨-, q⟩
  · exact Or.inl q
  · exact Or.inr q
theorem st_below (hV : ∀ r, r < rc → okRl nt (V r)) (hn : nt ≤ 10) {s : Nat → Option Nat} (h : IsSt F V rc U nt s) {n d : Nat} (hn9 : n < 1000) (hd : s n = some (d + 2)) : ∃ m, m < 1000 ∧ s m = some (d + 1) := by
  rcases h.2.2 n _ hn9 hd with q | ⟨r, hr, hU, τ, hτ, hh, ha, -, hi⟩
  · rw [h.1 n hn9 q] at hd; injection hd with e; omega
  · rcases Classical.em (∃ j, j < (V r).2.2.1 ∧ (V r).2.1 j 0 = 0 ∧ s (nmT ((V r).2.1 j) τ) = some (d + 1)) with ⟨j, hj, h0, e⟩ | q
    · exact ⟨_, (nm_lt (hV r hr) hn hτ hj (by rw [h0]; decide)).1, e⟩
    · obtain ⟨x, x1, x2⟩ := h.2.1 r τ d hr hU hτ hh (fun j hj h0 => by
        obtain ⟨e, e1, e2⟩ := hi j hj h0
        refine ⟨e, e1, ?_⟩
        rcases Nat.lt_or_ge d e with z | z
        · exact absurd ⟨j, hj, h0, by rw [e1, show e = d + 1 by omega]⟩ q
        · exact z)
      rw [ha, hd] at x1
      injection x1 with x1
      omega
theorem st_le (hV : ∀ r, r < rc → okRl nt (V r)) (hn : nt ≤ 10) {s : Nat → Option Nat} (h : IsSt F V rc U nt s) {n d : Nat} (hn9 : n < 1000) (hd : s n = some d) : d ≤ 1000 := by
  have hall : ∀ k e, e + k = d → 1 ≤ e → ∃ m, m < 1000 ∧ s m = some e := by
    intro k
    induction k with
    | zero => exact fun e h1 _ => ⟨n, hn9, by rw [hd, show d = e by omega]⟩
    | succ k ih =>
      intro e h1 h2
      obtain ⟨m, m1, m2⟩ := ih (e + 1) (by omega) (by omega)
      obtain ⟨e, rfl⟩ : ∃ e', e = e' + 1 := ⟨e - 1, by omega⟩
      exact st_below hV hn h m1 m2
  have hch : ∀ i, ∃ m, i < d → m < 1000 ∧ s m = some (i + 1) := fun i => by
    by_cases q : i < d
    · obtain ⟨m, m1, m2⟩ := hall (d - (i + 1)) (i + 1) (by omega) (by omega)
      exact ⟨m, fun _ => ⟨m1, m2⟩⟩
    · exact ⟨0, fun z => absurd z q⟩
  refine fb_holes 1000 d (fun i => Classical.choose (hch i)) (fun i hi => (Classical.choose_spec (hch i) hi).1) (fun i j hij hj e => ?_)
  have a := (Classical.choose_spec (hch i) (by omega)).2
  have b := (Classical.choose_spec (hch j) hj).2
  have e : Classical.choose (hch i) = Classical.choose (hch j) := e
  rw [e, b] at a
  injection a with a
  omega
end SPEC
