/-! a RULE's first ATOM held against an ATOM; TERMS that hold -/
def hdT (v : RV) (τ : Nat → Nat) (n : Nat) : Prop := thT (v.1 2) τ = n / 10 % 10 ∧ thT (v.1 3) τ = n % 10
/-- the PLACES of the first ATOM are those of the ATOM's number -/
def plN (v : RV) (n : Nat) : Prop := (v.1 2 = -1 → n / 10 % 10 = 0) ∧ (v.1 3 = -1 → n % 10 = 0)
theorem bd_spec {nt : Nat} {a : Int32} {x : Nat} {θ : Nat → Option Nat} (ha : okA nt a) (hn : nt ≤ 10) (hx : x < 10) (hp : a = -1 → x = 0) : ((bdP a x θ).1 = true → ∀ τ, extT (bdP a x θ).2 τ ↔ extT θ τ ∧ thT a τ = x) ∧ ((bdP a x θ).1 = false → ∀ τ, extT θ τ → thT a τ ≠ x) := by
  rcases ha with rfl | ⟨t, ht, rfl⟩ | ⟨s, hs, rfl⟩
  · rw [bdP_th (by decide)]
    refine ⟨fun _ τ => ⟨fun h => ⟨h, by rw [hp rfl]; rfl⟩, fun h => h.1⟩, fun h => ?_⟩
    simp at h
  · have h1 : nI t < 100 := (nI_ltI (b := 100) (by omega) (by omega)).mpr (by omega)
    have h2 : ¬ nI t = -1 := nI_m1 (by omega)
    rw [bdP_th h1]
    refine ⟨fun h τ => ?_, fun h τ _ => ?_⟩
    · simp [h2] at h
      have h3 := (nI_eq (by omega) (by omega)).mp h
      rw [show thT (nI t) τ = t from thO_th (by omega) _]
      exact ⟨fun q => ⟨q, h3⟩, fun q => q.1⟩
    · simp [h2] at h
      rw [show thT (nI t) τ = t from thO_th (by omega) _]
      exact fun q => h (by rw [q])
  · rw [bdP_sg hs]
    by_cases e : θ s = none
    · rw [if_pos e]
      refine ⟨fun _ τ => ?_, fun h => by cases h⟩
      rw [thT_sg hs]
      constructor
      · intro h
        refine ⟨fun k t hk q => ?_, h s x hs (by show va_up θ s (some x) s = _; simp [va_up])⟩
        have hne : k ≠ s := fun z => by rw [z, e] at q; cases q
        exact h k t hk (by show va_up θ s (some x) k = _; simp [va_up, hne, q])
      · rintro ⟨h1, h2⟩ k t hk q
        have q : va_up θ s (some x) k = some t := q
        unfold va_up at q
        by_cases z : k = s
        · rw [if_pos z] at q; cases q; rw [z]; exact h2
        · rw [if_neg z] at q; exact h1 k t hk q
    · rw [if_neg e]
      obtain ⟨t, ht⟩ : ∃ t, θ s = some t := by
        cases q : θ s with
        | none => exact absurd q e
        | some t => exact ⟨t, rfl⟩
      refine ⟨fun h τ => ?_, fun h τ hτ => ?_⟩
      · have h : θ s = some x := by simpa using h
        rw [thT_sg hs]
        exact ⟨fun q => ⟨q, q s x hs h⟩, fun q => q.1⟩
      · have h : ¬ θ s = some x := by simpa using h
        rw [thT_sg hs, hτ s t hs ht]
        exact fun q => h (by rw [ht, q])
theorem ext_cl (θ : Nat → Option Nat) (τ : Nat → Nat) : extT (clT θ) τ := fun s t hs e => by simp [clT, hs] at e
theorem bh_spec {nt : Nat} {v : RV} {n : Nat} {θ : Nat → Option Nat} (hv : okRl nt v) (hn : nt ≤ 10) (hp : plN v n) : ((bhP v n (clT θ)).1 = true → ∀ τ, extT (bhP v n (clT θ)).2 τ ↔ hdT v τ n) ∧ ((bhP v n (clT θ)).1 = false → ∀ τ, ¬ hdT v τ n) := by
  have h2 := bd_spec (θ := clT θ) hv.2.2.2.1 hn (show n / 10 % 10 < 10 by omega) hp.1
  have h3 := bd_spec (θ := (bdP (v.1 2) (n / 10 % 10) (clT θ)).2) hv.2.2.2.2.1 hn (show n % 10 < 10 by omega) hp.2
  unfold bhP
  cases e : (bdP (v.1 2) (n / 10 % 10) (clT θ)).1 with
  | false =>
    rw [if_neg (by decide)]
    exact ⟨fun h => (by cases h), fun _ τ q => h2.2 e τ (ext_cl θ τ) q.1⟩
  | true =>
    rw [if_pos rfl]
    refine ⟨fun h τ => ?_, fun h τ q => ?_⟩
    · rw [h3.1 h τ, h2.1 e τ]
      exact ⟨fun q => ⟨q.1.2, q.2⟩, fun q => ⟨⟨ext_cl θ τ, q.1⟩, q.2⟩⟩
    · exact h3.2 h τ ((h2.1 e τ).mpr ⟨ext_cl θ τ, q.1⟩) q.2
theorem bd_pre {nt : Nat} {a : Int32} {x m : Nat} {θ : Nat → Option Nat} (ha : okA nt a) (hn : nt ≤ 10) (ho : ordA a m) (hp : preT θ m) : preT (bdP a x θ).2 (nxA a m) := by
  rcases ha with rfl | ⟨t, ht, rfl⟩ | ⟨s, hs, rfl⟩
  · rw [bdP_th (by decide), nxA_no (fun s hs q => nI_m1 (by omega) q.symm)]; exact hp
  · have h1 : nI t < 100 := (nI_ltI (b := 100) (by omega) (by omega)).mpr (by omega)
    rw [bdP_th h1, nxA_no (fun s hs q => by have := (nI_eq (by omega) (by omega)).mp q; omega)]; exact hp
  · have h1 := ho s hs rfl
    rw [bdP_sg hs, nxA_sg hs h1]
    by_cases e : s = m
    · subst e
      have h2 : θ s = none := by
        cases q : θ s with
        | none => rfl
        | some t => exact absurd ((hp s hs).mp (by rw [q]; exact fun z => by cases z)) (by omega)
      rw [if_pos h2, if_pos rfl]
      intro k hk
      show va_up θ s (some x) k ≠ none ↔ _
      unfold va_up
      by_cases e : k = s
      · rw [if_pos e]; exact ⟨fun _ => by omega, fun _ z => by cases z⟩
      · rw [if_neg e, hp k hk]; omega
    · have h2 : θ s ≠ none := (hp s hs).mpr (by omega)
      rw [if_neg h2, if_neg e]; exact hp
theorem bh_pre {nt : Nat} {v : RV} {n : Nat} {θ : Nat → Option Nat} (hv : okRl nt v) (hn : nt ≤ 10) (ho : ordR v) (h : (bhP v n (clT θ)).1 = true) : preT (bhP v n (clT θ)).2 (mS v 0) := by
  have h0 : preT (clT θ) 0 := fun s hs => by simp [clT, hs]
  have h1 := bd_pre (x := n / 10 % 10) hv.2.2.2.1 hn ho.1.1 h0
  unfold bhP at h ⊢
  split at h
  next e => rw [if_pos e]; exact bd_pre hv.2.2.2.2.1 hn ho.1.2 h1
  next e => cases h
/-! rows and numbers -/
theorem hld_s {v : RV} {nt : Nat} {s : Nat → Option Nat} {f : Nat → Int32} (hv : okRl nt v) (hn : nt ≤ 10) (hf : isRows f (fun n => (s n).isSome)) {τ : Nat → Nat} {m : Nat} (hm : m < v.2.2.1) (ht : ∀ k, k < 3 → sgIn (v.2.1 m) k → τ k < nt) : tmHold (v.2.1 m) τ (rowS f) ↔ tmHold (v.2.1 m) τ (fun n => (s n).isSome) := by
  have key : ¬ v.2.1 m 0 = 2 → rowS f (nmT (v.2.1 m) τ) = (s (nmT (v.2.1 m) τ)).isSome := fun h2 => by
    have hok := hv.2.1 m hm
    have h9 := nmT_k (t := v.2.1 m) (τ := τ) hok.2.2.1 hok.2.2.2 hn (fun k hk q => by have := ht k hk q; omega)
    have := (hok.2.1 h2).2
    exact rowS_of hf (by omega)
  exact ⟨hold_cong key, hold_cong (fun h2 => (key h2).symm)⟩
/-- so many TERMS from the first on hold together -/
def prS (v : RV) (nt : Nat) (s : Nat → Option Nat) (τ : Nat → Nat) (j : Nat) : Prop := okP v nt τ 0 j ∧ ∀ m, m < j → tmHold (v.2.1 m) τ (fun n => (s n).isSome)
theorem pfx_s {v : RV} {nt : Nat} {s : Nat → Option Nat} {f : Nat → Int32} {θ : Nat → Option Nat} (hv : okRl nt v) (hn : nt ≤ 10) (hf : isRows f (fun n => (s n).isSome)) {j : Nat} (hj : j ≤ v.2.2.1) : pfx v nt θ f 0 j ↔ ∃ τ, extT θ τ ∧ prS v nt s τ j := by
  constructor
  · rintro ⟨τ, a, b, c⟩
    exact ⟨τ, a, b, fun m hm => (hld_s hv hn hf (by omega) (fun k hk q => b k hk ⟨m, by omega, hm, q⟩)).mp (c m (by omega) hm)⟩
  · rintro ⟨τ, a, b, c⟩
    exact ⟨τ, a, b, fun m _ hm => (hld_s hv hn hf (by omega) (fun k hk q => b k hk ⟨m, by omega, hm, q⟩)).mpr (c m hm)⟩
/-- how far a RULE comes for an ATOM -/
def comR (v : RV) (nt : Nat) (s : Nat → Option Nat) (n : Nat) (r : Int32) : Prop := ((∀ τ, ¬ hdT v τ n) ∧ r = -2) ∨ ∃ ρ, r = nI ρ ∧ ρ ≤ v.2.2.1 ∧ (∃ τ, hdT v τ n ∧ prS v nt s τ ρ) ∧ ∀ j τ, j ≤ v.2.2.1 → hdT v τ n → prS v nt s τ j → j ≤ ρ
def canH (v : RV) (nt : Nat) (s : Nat → Option Nat) : Prop := ∃ τ, prS v nt s τ v.2.2.1
/-- the most STEPS of the ATOM TERMS -/
def mxT (v : RV) (τ : Nat → Nat) (s : Nat → Option Nat) : Nat → Nat
  | 0 => 0
  | n + 1 => max (mxT v τ s n) (if v.2.1 n 0 = 0 then (s (nmT (v.2.1 n) τ)).getD 0 else 0)
def leadS (v : RV) (nt : Nat) (s : Nat → Option Nat) (n d : Nat) (τ : Nat → Nat) : Prop := hdT v τ n ∧ prS v nt s τ v.2.2.1 ∧ mxT v τ s v.2.2.1 + 1 = d
def whyP (V : Nat → RV) (rc nt : Nat) (s : Nat → Option Nat) (n d r : Nat) (τ : Nat → Nat) : Prop := r < rc ∧ rvH (V r) = n / 100 ∧ leadS (V r) nt s n d τ ∧ (∀ r', r' < r → rvH (V r') = n / 100 → ∀ τ', ¬ leadS (V r') nt s n d τ') ∧ ∀ τ', leadS (V r) nt s n d τ' → lexL (mS (V r) (V r).2.2.1) τ τ'
theorem bdM_n {v : RV} {nt : Nat} {s : Nat → Option Nat} {f g : Nat → Int32} (hv : okRl nt v) (hn : nt ≤ 10) (hst : stl s f g) (hle : ∀ n d, n < 1000 → s n = some d → d ≤ 1000) {τ : Nat → Nat} (hp : prS v nt s τ v.2.2.1) : ∀ (n i : Nat), i + n = v.2.2.1 → mxT v τ s i ≤ 1000 ∧ bdM v τ g n i (nI (mxT v τ s i)) = nI (mxT v τ s v.2.2.1) := by
  have hb : ∀ m, m ≤ v.2.2.1 → mxT v τ s m ≤ 1000 := by
    intro m
    induction m with
    | zero => intro _; show 0 ≤ 1000; omega
    | succ m ih =>
      intro hm
      have := ih (by omega)
      simp only [mxT]
      split
      next t0 =>
        have hok := hv.2.1 m (by omega)
        have h9 := nmT_k (t := v.2.1 m) (τ := τ) hok.2.2.1 hok.2.2.2 hn (fun k hk q => by have := hp.1 k hk ⟨m, by omega, by omega, q⟩; omega)
        have h8 := (hok.2.1 (by rw [t0]; decide)).2
        cases e : s (nmT (v.2.1 m) τ) with
        | none => exact Nat.max_le.mpr ⟨this, Nat.zero_le _⟩
        | some d => exact Nat.max_le.mpr ⟨this, hle _ d (by omega) e⟩
      next => exact Nat.max_le.mpr ⟨this, Nat.zero_le _⟩
  intro n
  induction n with
  | zero => intro i hi; rw [show i = v.2.2.1 by omega]; exact ⟨hb _ (Nat.le_refl _), rfl⟩
  | succ n ih =>
    intro i hi
    have h1 := hb i (by omega)
    have h2 := hb (i + 1) (by omega)
    refine ⟨h1, ?_⟩
    simp only [bdM]
    have e : imax (nI (mxT v τ s i)) (if v.2.1 i 0 = 0 then g (nmT (v.2.1 i) τ) else 0) = nI (mxT v τ s (i + 1)) := by
      simp only [mxT] at h2 ⊢
      by_cases t0 : v.2.1 i 0 = 0
      · rw [if_pos t0] at h2 ⊢
        rw [if_pos t0]
        have hok := hv.2.1 i (by omega)
        have h9 := nmT_k (t := v.2.1 i) (τ := τ) hok.2.2.1 hok.2.2.2 hn (fun k hk q => by have := hp.1 k hk ⟨i, by omega, by omega, q⟩; omega)
        have h8 := (hok.2.1 (by rw [t0]; decide)).2
        have hh := (hold_0 t0).mp (hp.2 i (by omega))
        cases e : s (nmT (v.2.1 i) τ) with
        | none => have hh : (s (nmT (v.2.1 i) τ)).isSome = true := hh; rw [e] at hh; cases hh
        | some d =>
          rw [hst.2 _ d (by omega) e]
          rw [e] at h2
          have h3 : d ≤ 1000 := Nat.le_trans (Nat.le_max_right _ _) h2
          exact imax_nI (by omega) (by omega)
      · rw [if_neg t0] at h2 ⊢
        rw [if_neg t0]
        exact imax_nI (b := 0) (by omega) (by omega)
    rw [e]
    exact (ih (i + 1) (by omega)).2
theorem sat2_lead {v : RV} {nt : Nat} {s : Nat → Option Nat} {f g : Nat → Int32} {θ : Nat → Option Nat} {n d : Nat} (hv : okRl nt v) (hn : nt ≤ 10) (hst : stl s f g) (hle : ∀ n d, n < 1000 → s n = some d → d ≤ 1000) (hn9 : n < 1000) (hd : s n = some d) (hd0 : 0 < d) (hθ : ∀ τ, extT θ τ ↔ hdT v τ n) (τ : Nat → Nat) : sat2 v nt θ f g (g n - 1) v.2.2.1 0 0 τ ↔ leadS v nt s n d τ := by
  have hd1 := hle n d hn9 hd
  have hg : g n - 1 = nI (d - 1) := by
    rw [hst.2 n d hn9 hd]
    exact pk_sub (a := d) (b := 1) (by omega)
  have hpr : okP v nt τ 0 v.2.2.1 → (hldP v f τ 0 v.2.2.1 ↔ ∀ m, m < v.2.2.1 → tmHold (v.2.1 m) τ (fun n => (s n).isSome)) := fun b =>
    ⟨fun c m hm => (hld_s hv hn hst.1 hm (fun k hk q => b k hk ⟨m, by omega, hm, q⟩)).mp (c m (by omega) hm), fun c m _ hm => (hld_s hv hn hst.1 hm (fun k hk q => b k hk ⟨m, by omega, hm, q⟩)).mpr (c m hm)⟩
  unfold sat2 leadS
  rw [hθ τ, hg]
  constructor
  · rintro ⟨a, b, c, e⟩
    have hp : prS v nt s τ v.2.2.1 := ⟨b, (hpr b).mp c⟩
    obtain ⟨-, z⟩ := bdM_n hv hn hst hle hp v.2.2.1 0 (by omega)
    have hb := (bdM_n hv hn hst hle hp 0 v.2.2.1 (by omega)).1
    have e : bdM v τ g v.2.2.1 0 (nI (mxT v τ s 0)) = nI (d - 1) := e
    rw [z] at e
    have := (nI_eq (by omega) (by omega)).mp e
    exact ⟨a, hp, by omega⟩
  · rintro ⟨a, hp, e⟩
    obtain ⟨-, z⟩ := bdM_n hv hn hst hle hp v.2.2.1 0 (by omega)
    refine ⟨a, hp.1, (hpr hp.1).mpr hp.2, ?_⟩
    show bdM v τ g v.2.2.1 0 (nI (mxT v τ s 0)) = nI (d - 1)
    rw [z, show d - 1 = mxT v τ s v.2.2.1 by omega]
