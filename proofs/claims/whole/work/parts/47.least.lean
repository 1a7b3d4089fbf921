/-! by which THINGS first: wkP with aim 2 -/
section LEAST
variable {v : RV} {nt : Nat} {cs : Bool} {f g : Nat → Int32}
/-- SIGNS stand in their order -/
def ordA (a : Int32) (m : Nat) : Prop := ∀ s, s < 3 → a = nI (100 + s) → s ≤ m
def nxA (a : Int32) (m : Nat) : Nat := if a = nI (100 + m) ∧ m < 3 then m + 1 else m
def mS (v : RV) : Nat → Nat
  | 0 => nxA (v.1 3) (nxA (v.1 2) 0)
  | i + 1 => nxA (v.2.1 i 3) (nxA (v.2.1 i 2) (mS v i))
def ordR (v : RV) : Prop := (ordA (v.1 2) 0 ∧ ordA (v.1 3) (nxA (v.1 2) 0)) ∧ ∀ i, i < v.2.2.1 → ordA (v.2.1 i 2) (mS v i) ∧ ordA (v.2.1 i 3) (nxA (v.2.1 i 2) (mS v i))
/-- just the SIGNS ahead of m have their THINGS -/
def preT (θ : Nat → Option Nat) (m : Nat) : Prop := ∀ s, s < 3 → (θ s ≠ none ↔ s < m)
theorem nxA_sg {s m : Nat} (hs : s < 3) (h : s ≤ m) : nxA (nI (100 + s)) m = if s = m then m + 1 else m := by
  unfold nxA
  by_cases e : s = m
  · subst e; rw [if_pos ⟨rfl, hs⟩, if_pos rfl]
  · rw [if_neg (fun q => e (by have := (nI_eq (by omega) (by omega)).mp q.1; omega)), if_neg e]
theorem nxA_no {a : Int32} {m : Nat} (h : ∀ s, s < 3 → a ≠ nI (100 + s)) : nxA a m = m := by
  unfold nxA
  rw [if_neg (fun q => h m q.2 q.1)]
theorem pre_bnd {a : Int32} {θ : Nat → Option Nat} {m x : Nat} (ha : okA nt a) (hn : nt ≤ 10) (ho : ordA a m) (hp : preT θ m) : preT (bndS a θ x) (nxA a m) := by
  rcases ha with rfl | ⟨t, ht, rfl⟩ | ⟨s, hs, rfl⟩
  · rw [nxA_no (fun s hs q => nI_m1 (by omega) q.symm), bndS_none (frS_th (by decide) θ)]; exact hp
  · have h1 : nI t < 100 := (nI_ltI (b := 100) (by omega) (by omega)).mpr (by omega)
    rw [nxA_no (fun s hs q => by have := (nI_eq (by omega) (by omega)).mp q; omega), bndS_none (frS_th h1 θ)]; exact hp
  · have h1 := ho s hs rfl
    rw [nxA_sg hs h1]
    by_cases e : s = m
    · subst e
      rw [if_pos rfl]
      have h2 : θ s = none := by
        cases q : θ s with
        | none => rfl
        | some t => exact absurd ((hp s hs).mp (by rw [q]; exact fun z => by cases z)) (by omega)
      rw [bndS_some (by rw [frS_sg hs, if_pos h2])]
      intro k hk
      unfold va_up
      by_cases e : k = s
      · rw [if_pos e]; exact ⟨fun _ => by omega, fun _ z => by cases z⟩
      · rw [if_neg e, hp k hk]; omega
    · rw [if_neg e]
      have h2 : θ s ≠ none := (hp s hs).mpr (by omega)
      rw [bndS_none (by rw [frS_sg hs, if_neg h2])]; exact hp
def lexL (K : Nat) (τ τ' : Nat → Nat) : Prop := (∀ s, s < K → τ s = τ' s) ∨ ∃ s, s < K ∧ (∀ r, r < s → τ r = τ' r) ∧ τ s < τ' s
def sat2 (v : RV) (nt : Nat) (θ : Nat → Option Nat) (f g : Nat → Int32) (want : Int32) (n i : Nat) (high : Int32) (τ : Nat → Nat) : Prop := extT θ τ ∧ okP v nt τ i v.2.2.1 ∧ hldP v f τ i v.2.2.1 ∧ bdM v τ g n i high = want
/-- what was found: the first of those that p tells -/
def fnd2 (K : Nat) (p : (Nat → Nat) → Prop) (σ σ' : JS) : Prop := (σ'.2.2.2.2.2.1 = false ∧ σ'.2.2.2.2.2.2 = σ.2.2.2.2.2.2 ∧ ∀ τ, ¬ p τ) ∨ (σ'.2.2.2.2.2.1 = true ∧ ∃ τ, p τ ∧ (∀ s, s < 3 → σ'.2.2.2.2.2.2 s = if s < K then nI (τ s) else -1) ∧ ∀ τ', p τ' → lexL K τ τ')
theorem le_w2 (hv : okRl nt v) (hn : nt ≤ 10) (hw : wfR f) {i n x K m : Nat} {want high fit : Int32} {θ0 : Nat → Option Nat} {go : Int32 → (Nat → Option Nat) → JS → JS} (hi : i < v.2.2.1)
    (hx : x < 10) (hθ : okTh nt (bndS (v.2.1 i 2) θ0 x)) (hxe : ∀ τ, extT (bndS (v.2.1 i 2) θ0 x) τ → thT (v.2.1 i 2) τ = x) (hfit : ¬ v.2.1 i 0 = 0 → ∀ y, y < 10 → ((fit >>> (nI y &&& 31)) &&& 1) = bi (bitB (v.2.1 i) x y f))
    (hm : preT (bndS (v.2.1 i 2) θ0 x) m) (ho : ordA (v.2.1 i 3) m) (hK : nxA (v.2.1 i 3) m ≤ K)
    (hgo : ∀ hi9 θ2 σ, σ.1 = f → σ.2.1 = g → okTh nt θ2 → preT θ2 (nxA (v.2.1 i 3) m) → σ.2.2.2.2.2.1 = false → (go hi9 θ2 σ).1 = f ∧ (go hi9 θ2 σ).2.1 = g ∧ fnd2 K (sat2 v nt θ2 f g want n (i + 1) hi9) σ (go hi9 θ2 σ)) :
    ∀ (l : List Nat) (σ : JS), l.Pairwise (· < ·) → (∀ y ∈ l, y ∈ rng (v.2.1 i 3) (bndS (v.2.1 i 2) θ0 x) nt) → σ.1 = f → σ.2.1 = g → σ.2.2.2.2.2.1 = false → (w2P (v.2.1 i) x fit high (bndS (v.2.1 i 2) θ0 x) go l σ).1 = f ∧ (w2P (v.2.1 i) x fit high (bndS (v.2.1 i 2) θ0 x) go l σ).2.1 = g ∧ fnd2 K (fun τ => sat2 v nt (bndS (v.2.1 i 2) θ0 x) f g want (n + 1) i high τ ∧ thT (v.2.1 i 3) τ ∈ l) σ (w2P (v.2.1 i) x fit high (bndS (v.2.1 i 2) θ0 x) go l σ) := by
  intro l
  induction l with
  | nil => exact fun σ _ _ h1 h2 h3 => ⟨h1, h2, Or.inl ⟨h3, rfl, fun τ q => by cases q.2⟩⟩
  | cons y ys ih =>
    intro σ hp hl h1 h2 h3
    have hok := hv.2.1 i hi
    obtain ⟨hy, hθ2, hval⟩ := rng_val hok.2.2.2 hn hθ (hl y List.mem_cons_self)
    obtain ⟨hp1, hp2⟩ := List.pairwise_cons.mp hp
    simp only [w2P]
    rw [if_neg (by rw [h3]; decide)]
    have hbit : (((if v.2.1 i 0 = 0 then σ.1 ((v.2.1 i 1).toNatClampNeg * 10 + x) else fit) >>> (nI y &&& 31)) &&& 1) = bi (bitB (v.2.1 i) x y f) := by
      rw [h1]
      by_cases t0 : v.2.1 i 0 = 0
      · have h9 := tm_bit hok hw hx hy
        rw [if_pos t0] at h9 ⊢
        exact h9
      · rw [if_neg t0]; exact hfit t0 y hy
    rw [hbit]
    have hl2 : ∀ z ∈ ys, z ∈ rng (v.2.1 i 3) (bndS (v.2.1 i 2) θ0 x) nt := fun z hz => hl z (List.mem_cons_of_mem _ hz)
    cases hB : bitB (v.2.1 i) x y f with
    | false =>
      rw [if_pos (show bi false = 0 from rfl)]
      have hno : ∀ τ, sat2 v nt (bndS (v.2.1 i 2) θ0 x) f g want (n + 1) i high τ → thT (v.2.1 i 3) τ ∈ y :: ys → thT (v.2.1 i 3) τ ∈ ys := by
        intro τ q z
        rcases List.mem_cons.mp z with e | e
        · have := (bit_hold (f := f) (hxe τ q.1) e).mp (q.2.2.1 i (Nat.le_refl _) hi)
          rw [hB] at this; cases this
        · exact e
      obtain ⟨a1, a2, a3⟩ := ih σ hp2 hl2 h1 h2 h3
      refine ⟨a1, a2, ?_⟩
      rcases a3 with ⟨b1, b2, b3⟩ | ⟨b1, τ, b2, b3, b4⟩
      · exact Or.inl ⟨b1, b2, fun τ q => b3 τ ⟨q.1, hno τ q.1 q.2⟩⟩
      · exact Or.inr ⟨b1, τ, ⟨b2.1, List.mem_cons_of_mem _ b2.2⟩, b3, fun τ' q => b4 τ' ⟨q.1, hno τ' q.1 q.2⟩⟩
    | true =>
      rw [if_neg (show ¬ bi true = 0 by decide), h2]
      have hnm : ∀ τ, extT (bndS (v.2.1 i 3) (bndS (v.2.1 i 2) θ0 x) y) τ → nmT (v.2.1 i) τ = ((v.2.1 i 1).toNatClampNeg * 10 + x) * 10 + y := fun τ q => by
        show ((v.2.1 i 1).toNatClampNeg * 10 + thT (v.2.1 i 2) τ) * 10 + thT (v.2.1 i 3) τ = _
        rw [hxe τ (hval τ q).1, (hval τ q).2]
      have hpre := pre_bnd (x := y) hok.2.2.2 hn ho hm
      have hdn : ∀ τ, sat2 v nt (bndS (v.2.1 i 3) (bndS (v.2.1 i 2) θ0 x) y) f g want n (i + 1) (imax high (if v.2.1 i 0 = 0 then g (((v.2.1 i 1).toNatClampNeg * 10 + x) * 10 + y) else 0)) τ ↔ sat2 v nt (bndS (v.2.1 i 2) θ0 x) f g want (n + 1) i high τ ∧ thT (v.2.1 i 3) τ = y := by
        intro τ
        constructor
        · intro ⟨z2, z3, z4, z5⟩
          refine ⟨⟨(hval τ z2).1, fun s hs ⟨m, m1, m2, m3⟩ => ?_, fun m m1 m2 => ?_, ?_⟩, (hval τ z2).2⟩
          · rcases Nat.eq_or_lt_of_le m1 with e | e
            · subst e; exact tm_lt hok hn hθ2 z2 s hs m3
            · exact z3 s hs ⟨m, e, m2, m3⟩
          · rcases Nat.eq_or_lt_of_le m1 with e | e
            · subst e; exact (bit_hold (hxe τ (hval τ z2).1) (hval τ z2).2).mpr hB
            · exact z4 m e m2
          · simp only [bdM]; rw [hnm τ z2]; exact z5
        · intro ⟨⟨z2, z3, z4, z5⟩, e⟩
          have he2 : extT (bndS (v.2.1 i 3) (bndS (v.2.1 i 2) θ0 x) y) τ := by rw [← e]; exact bnd_ext hok.2.2.2 hn z2
          refine ⟨he2, fun s hs ⟨m, m1, m2⟩ => z3 s hs ⟨m, by omega, m2⟩, fun m m1 m2 => z4 m (by omega) m2, ?_⟩
          simp only [bdM] at z5
          rw [hnm τ he2] at z5; exact z5
      generalize imax high (if v.2.1 i 0 = 0 then g (((v.2.1 i 1).toNatClampNeg * 10 + x) * 10 + y) else 0) = hh at hdn ⊢
      obtain ⟨g1, g2, g3⟩ := hgo hh _ σ h1 h2 hθ2 hpre h3
      rcases g3 with ⟨g4, g5, g6⟩ | ⟨g4, τ, g5, g6, g7⟩
      · obtain ⟨a1, a2, a3⟩ := ih _ hp2 hl2 g1 g2 g4
        refine ⟨a1, a2, ?_⟩
        have hno : ∀ τ, sat2 v nt (bndS (v.2.1 i 2) θ0 x) f g want (n + 1) i high τ → thT (v.2.1 i 3) τ ∈ y :: ys → thT (v.2.1 i 3) τ ∈ ys := by
          intro τ q z
          rcases List.mem_cons.mp z with e | e
          · exact absurd ((hdn τ).mpr ⟨q, e⟩) (g6 τ)
          · exact e
        rcases a3 with ⟨b1, b2, b3⟩ | ⟨b1, τ, b2, b3, b4⟩
        · exact Or.inl ⟨b1, b2.trans g5, fun τ q => b3 τ ⟨q.1, hno τ q.1 q.2⟩⟩
        · exact Or.inr ⟨b1, τ, ⟨b2.1, List.mem_cons_of_mem _ b2.2⟩, b3, fun τ' q => b4 τ' ⟨q.1, hno τ' q.1 q.2⟩⟩
      · have hst : w2P (v.2.1 i) x fit high (bndS (v.2.1 i 2) θ0 x) go ys (go hh (bndS (v.2.1 i 3) (bndS (v.2.1 i 2) θ0 x) y) σ) = go hh (bndS (v.2.1 i 3) (bndS (v.2.1 i 2) θ0 x) y) σ := by
          cases ys with
          | nil => rfl
          | cons z zs => simp only [w2P]; rw [if_pos g4]
        rw [hst]
        refine ⟨g1, g2, Or.inr ⟨g4, τ, ⟨((hdn τ).mp g5).1, by rw [((hdn τ).mp g5).2]; exact List.mem_cons_self⟩, g6, fun τ' q => ?_⟩⟩
        rcases List.mem_cons.mp q.2 with e | e
        · exact g7 τ' ((hdn τ').mpr ⟨q.1, e⟩)
        · have hlt := hp1 _ e
          have hy9 := ((hdn τ).mp g5).2
          cases hfr : frS (v.2.1 i 3) (bndS (v.2.1 i 2) θ0 x) with
          | none =>
            have e1 := th_ext hok.2.2.2 hn ((hdn τ).mp g5).1.1 (frS_no (nt := nt) hfr)
            have e2 := th_ext hok.2.2.2 hn q.1.1 (frS_no (nt := nt) hfr)
            omega
          | some s =>
            obtain ⟨s1, s2, s3⟩ := frS_spec hok.2.2.2 hn hfr
            rw [s2, thT_sg s1] at hy9
            rw [s2, thT_sg s1] at hlt
            have hsm : s = m := by
              have h8 := ho s s1 s2
              rcases Nat.lt_or_ge s m with z | z
              · exact absurd s3 ((hm s s1).mpr z)
              · omega
            subst hsm
            have hK9 : s + 1 ≤ K := by
              rw [s2, nxA_sg s1 (Nat.le_refl _), if_pos rfl] at hK; exact hK
            refine Or.inr ⟨s, by omega, fun r hr => ?_, by rw [hy9]; exact hlt⟩
            have hr3 : r < 3 := by omega
            cases e9 : bndS (v.2.1 i 2) θ0 x r with
            | none => exact absurd e9 ((hm r hr3).mpr hr)
            | some t => rw [((hdn τ).mp g5).1.1 r t hr3 e9, q.1.1 r t hr3 e9]
theorem le_w1 (hv : okRl nt v) (hn : nt ≤ 10) (hw : wfR f) {i n K m : Nat} {want high : Int32} {θ : Nat → Option Nat} {go : Int32 → (Nat → Option Nat) → JS → JS} (hi : i < v.2.2.1) (hθ : okTh nt θ)
    (hm : preT θ m) (ho : ordA (v.2.1 i 2) m) (ho3 : ordA (v.2.1 i 3) (nxA (v.2.1 i 2) m)) (hK : nxA (v.2.1 i 2) m ≤ K) (hK3 : nxA (v.2.1 i 3) (nxA (v.2.1 i 2) m) ≤ K)
    (hgo : ∀ hi9 θ2 σ, σ.1 = f → σ.2.1 = g → okTh nt θ2 → preT θ2 (nxA (v.2.1 i 3) (nxA (v.2.1 i 2) m)) → σ.2.2.2.2.2.1 = false → (go hi9 θ2 σ).1 = f ∧ (go hi9 θ2 σ).2.1 = g ∧ fnd2 K (sat2 v nt θ2 f g want n (i + 1) hi9) σ (go hi9 θ2 σ)) :
    ∀ (l : List Nat) (σ : JS), l.Pairwise (· < ·) → (∀ y ∈ l, y ∈ rng (v.2.1 i 2) θ nt) → σ.1 = f → σ.2.1 = g → σ.2.2.2.2.2.1 = false → (w1P (v.2.1 i) nt high θ go l σ).1 = f ∧ (w1P (v.2.1 i) nt high θ go l σ).2.1 = g ∧ fnd2 K (fun τ => sat2 v nt θ f g want (n + 1) i high τ ∧ thT (v.2.1 i 2) τ ∈ l) σ (w1P (v.2.1 i) nt high θ go l σ) := by
  intro l
  induction l with
  | nil => exact fun σ _ _ h1 h2 h3 => ⟨h1, h2, Or.inl ⟨h3, rfl, fun τ q => by cases q.2⟩⟩
  | cons x xs ih =>
    intro σ hp hl h1 h2 h3
    have hok := hv.2.1 i hi
    obtain ⟨hx, hθ2, hval⟩ := rng_val hok.2.2.1 hn hθ (hl x List.mem_cons_self)
    obtain ⟨hp1, hp2⟩ := List.pairwise_cons.mp hp
    simp only [w1P]
    rw [if_neg (by rw [h3]; decide), h1]
    have hl2 : ∀ z ∈ xs, z ∈ rng (v.2.1 i 2) θ nt := fun z hz => hl z (List.mem_cons_of_mem _ hz)
    have hlt3 : ∀ τ, sat2 v nt θ f g want (n + 1) i high τ → thT (v.2.1 i 3) τ < 10 := fun τ q => thT_lt hok.2.2.2 hn (fun s hs e => by
      have := q.2.1 s hs ⟨i, Nat.le_refl _, hi, Or.inr e⟩
      omega)
    by_cases hs : secP (v.2.1 i) x f = 0
    · rw [if_pos hs]
      have hno : ∀ τ, sat2 v nt θ f g want (n + 1) i high τ → thT (v.2.1 i 2) τ ∈ x :: xs → thT (v.2.1 i 2) τ ∈ xs := by
        intro τ q z
        rcases List.mem_cons.mp z with e | e
        · have hy := hlt3 τ q
          have h9 := (bit_hold (f := f) e rfl).mp (q.2.2.1 i (Nat.le_refl _) hi)
          have hb9 := tm_bit (nt := nt) hok hw hx hy
          exact absurd hs (sec_ne (by
            rw [hb9]
            unfold bitB at h9
            rw [h9]
            decide) hy)
        · exact e
      obtain ⟨a1, a2, a3⟩ := ih σ hp2 hl2 h1 h2 h3
      refine ⟨a1, a2, ?_⟩
      rcases a3 with ⟨b1, b2, b3⟩ | ⟨b1, τ, b2, b3, b4⟩
      · exact Or.inl ⟨b1, b2, fun τ q => b3 τ ⟨q.1, hno τ q.1 q.2⟩⟩
      · exact Or.inr ⟨b1, τ, ⟨b2.1, List.mem_cons_of_mem _ b2.2⟩, b3, fun τ' q => b4 τ' ⟨q.1, hno τ' q.1 q.2⟩⟩
    · rw [if_neg hs]
      have hpre := pre_bnd (x := x) hok.2.2.1 hn ho hm
      have hdn : ∀ τ, (sat2 v nt (bndS (v.2.1 i 2) θ x) f g want (n + 1) i high τ ∧ thT (v.2.1 i 3) τ ∈ rng (v.2.1 i 3) (bndS (v.2.1 i 2) θ x) nt) ↔ sat2 v nt θ f g want (n + 1) i high τ ∧ thT (v.2.1 i 2) τ = x := by
        intro τ
        constructor
        · intro ⟨⟨z2, z3⟩, _⟩
          exact ⟨⟨(hval τ z2).1, z3⟩, (hval τ z2).2⟩
        · intro ⟨⟨z2, z3⟩, e⟩
          have he2 : extT (bndS (v.2.1 i 2) θ x) τ := by rw [← e]; exact bnd_ext hok.2.2.1 hn z2
          exact ⟨⟨he2, z3⟩, rng_mem hok.2.2.2 hn he2 (fun s hs e => z3.1 s hs ⟨i, Nat.le_refl _, hi, Or.inr e⟩)⟩
      have hpw : (rng (v.2.1 i 3) (bndS (v.2.1 i 2) θ x) nt).Pairwise (· < ·) := by
        unfold rng
        split
        · exact List.pairwise_lt_range
        · exact List.pairwise_singleton _ _
      obtain ⟨g1, g2, g3⟩ := le_w2 (high := high) (fit := secP (v.2.1 i) x f) hv hn hw hi hx hθ2 (fun τ q => (hval τ q).2) (fun t0 y hy => by
          have h9 := tm_bit (nt := nt) hok hw hx hy
          rw [if_neg t0] at h9
          exact h9) hpre ho3 hK3 hgo _ σ hpw (fun _ h => h) h1 h2 h3
      rcases g3 with ⟨g4, g5, g6⟩ | ⟨g4, τ, g5, g6, g7⟩
      · obtain ⟨a1, a2, a3⟩ := ih _ hp2 hl2 g1 g2 g4
        refine ⟨a1, a2, ?_⟩
        have hno : ∀ τ, sat2 v nt θ f g want (n + 1) i high τ → thT (v.2.1 i 2) τ ∈ x :: xs → thT (v.2.1 i 2) τ ∈ xs := by
          intro τ q z
          rcases List.mem_cons.mp z with e | e
          · exact absurd ((hdn τ).mpr ⟨q, e⟩) (g6 τ)
          · exact e
        rcases a3 with ⟨b1, b2, b3⟩ | ⟨b1, τ, b2, b3, b4⟩
        · exact Or.inl ⟨b1, b2.trans g5, fun τ q => b3 τ ⟨q.1, hno τ q.1 q.2⟩⟩
        · exact Or.inr ⟨b1, τ, ⟨b2.1, List.mem_cons_of_mem _ b2.2⟩, b3, fun τ' q => b4 τ' ⟨q.1, hno τ' q.1 q.2⟩⟩
      · generalize w2P (v.2.1 i) x (secP (v.2.1 i) x f) high (bndS (v.2.1 i 2) θ x) go (rng (v.2.1 i 3) (bndS (v.2.1 i 2) θ x) nt) σ = σ2 at g1 g2 g4 g6 ⊢
        have hst : w1P (v.2.1 i) nt high θ go xs σ2 = σ2 := by
          cases xs with
          | nil => rfl
          | cons z zs => simp only [w1P]; rw [if_pos g4]
        rw [hst]
        have g5' := (hdn τ).mp g5
        refine ⟨g1, g2, Or.inr ⟨g4, τ, ⟨g5'.1, by rw [g5'.2]; exact List.mem_cons_self⟩, g6, fun τ' q => ?_⟩⟩
        rcases List.mem_cons.mp q.2 with e | e
        · exact g7 τ' ((hdn τ').mpr ⟨q.1, e⟩)
        · have hlt := hp1 _ e
          have hy9 := g5'.2
          cases hfr : frS (v.2.1 i 2) θ with
          | none =>
            have e1 := th_ext hok.2.2.1 hn g5'.1.1 (frS_no (nt := nt) hfr)
            have e2 := th_ext hok.2.2.1 hn q.1.1 (frS_no (nt := nt) hfr)
            omega
          | some s =>
            obtain ⟨s1, s2, s3⟩ := frS_spec hok.2.2.1 hn hfr
            rw [s2, thT_sg s1] at hy9
            rw [s2, thT_sg s1] at hlt
            have hsm : s = m := by
              have h8 := ho s s1 s2
              rcases Nat.lt_or_ge s m with z | z
              · exact absurd s3 ((hm s s1).mpr z)
              · omega
            subst hsm
            have hK9 : s + 1 ≤ K := by
              rw [s2, nxA_sg s1 (Nat.le_refl _), if_pos rfl] at hK; exact hK
            refine Or.inr ⟨s, by omega, fun r hr => ?_, by rw [hy9]; exact hlt⟩
            have hr3 : r < 3 := by omega
            cases e9 : θ r with
            | none => exact absurd e9 ((hm r hr3).mpr hr)
            | some t => rw [g5'.1.1 r t hr3 e9, q.1.1 r t hr3 e9]
theorem nxA_le (a : Int32) (m : Nat) : m ≤ nxA a m := by unfold nxA; split <;> omega
theorem mS_mono {i j : Nat} (h : i ≤ j) : mS v i ≤ mS v j := by
  induction j with
  | zero => rw [show i = 0 by omega]; exact Nat.le_refl _
  | succ j ih =>
    rcases Nat.eq_or_lt_of_le h with e | e
    · rw [e]; exact Nat.le_refl _
    · exact Nat.le_trans (ih (by omega)) (Nat.le_trans (nxA_le _ _) (nxA_le _ _))
theorem le_wk (hv : okRl nt v) (hn : nt ≤ 10) (hw : wfR f) (hor : ordR v) {want : Int32} : ∀ (n i : Nat) (high : Int32) (θ : Nat → Option Nat) (σ : JS), i + n = v.2.2.1 → σ.1 = f → σ.2.1 = g → okTh nt θ → preT θ (mS v i) → σ.2.2.2.2.2.1 = false → (wkP v nt cs 2 want n i high θ σ).1 = f ∧ (wkP v nt cs 2 want n i high θ σ).2.1 = g ∧ fnd2 (mS v v.2.2.1) (sat2 v nt θ f g want n i high) σ (wkP v nt cs 2 want n i high θ σ) := by
  intro n
  have hsz := hv.1
  induction n with
  | zero =>
    intro i high θ σ hi h1 h2 hθ hm h3
    have hi : i = v.2.2.1 := by omega
    subst hi
    show (arrP v cs 2 want high θ (rchP v.2.2.1 σ)).1 = f ∧ (arrP v cs 2 want high θ (rchP v.2.2.1 σ)).2.1 = g ∧ fnd2 _ _ σ (arrP v cs 2 want high θ (rchP v.2.2.1 σ))
    unfold arrP
    rw [if_neg (by decide), if_neg (by decide)]
    by_cases e : high = want
    · rw [if_pos e]
      refine ⟨h1, h2, Or.inr ⟨rfl, totT θ, ⟨totT_ext θ, fun s hs ⟨m, m1, m2, _⟩ => absurd m1 (by omega), fun m m1 m2 => absurd m1 (by omega), e⟩, fun s hs => ?_, fun τ' q => Or.inl (fun s hs => ?_)⟩⟩
      · show va_cpy (bfP θ) _ 0 0 3 s = _
        rw [pk_cpy_in (by omega) (by omega)]
        show enT (θ (0 + (s - 0))) = _
        rw [show 0 + (s - 0) = s by omega]
        by_cases hk : s < mS v v.2.2.1
        · rw [if_pos hk]
          cases q : θ s with
          | none => exact absurd q ((hm s hs).mpr hk)
          | some t => unfold totT; rw [q]; rfl
        · rw [if_neg hk]
          cases q : θ s with
          | none => rfl
          | some t => exact absurd ((hm s hs).mp (by rw [q]; exact fun z => by cases z)) hk
      · rcases Nat.lt_or_ge s 3 with z | z
        · cases q9 : θ s with
          | none => exact absurd q9 ((hm s z).mpr hs)
          | some t => rw [totT_ext θ s t z q9, q.1 s t z q9]
        · have : mS v v.2.2.1 ≤ 3 := by
            have hb : ∀ a m, m ≤ 3 → nxA a m ≤ 3 := fun a m h => by unfold nxA; split <;> omega
            have : ∀ k, mS v k ≤ 3 := fun k => by
              induction k with
              | zero => exact hb _ _ (hb _ _ (by omega))
              | succ k ih => exact hb _ _ (hb _ _ ih)
            exact this _
          omega
    · rw [if_neg e]
      exact ⟨h1, h2, Or.inl ⟨h3, rfl, fun τ q => e q.2.2.2⟩⟩
  | succ n ih =>
    intro i high θ σ hi h1 h2 hθ hm h3
    have hlt : i < v.2.2.1 := by omega
    have hpw : (rng (v.2.1 i 2) θ nt).Pairwise (· < ·) := by
      unfold rng
      split
      · exact List.pairwise_lt_range
      · exact List.pairwise_singleton _ _
    have hk1 : mS v (i + 1) ≤ mS v v.2.2.1 := mS_mono (by omega)
    obtain ⟨a1, a2, a3⟩ := le_w1 (high := high) hv hn hw hlt hθ hm (hor.2 i hlt).1 (hor.2 i hlt).2 (Nat.le_trans (nxA_le _ _) hk1) hk1 (go := fun hi τ ρ => wkP v nt cs 2 want n (i + 1) hi τ ρ) (fun hi9 θ2 σ b1 b2 b3 b4 b5 => ih (i + 1) hi9 θ2 σ (by omega) b1 b2 b3 b4 b5) (rng (v.2.1 i 2) θ nt) (rchP i σ) hpw (fun _ h => h) h1 h2 h3
    refine ⟨a1, a2, ?_⟩
    have hin : ∀ τ, sat2 v nt θ f g want (n + 1) i high τ → thT (v.2.1 i 2) τ ∈ rng (v.2.1 i 2) θ nt := fun τ q => rng_mem (hv.2.1 i hlt).2.2.1 hn q.1 (fun s hs e => q.2.1 s hs ⟨i, Nat.le_refl _, hlt, Or.inl e⟩)
    rcases a3 with ⟨b1, b2, b3⟩ | ⟨b1, τ, b2, b3, b4⟩
    · exact Or.inl ⟨b1, b2, fun τ q => b3 τ ⟨q, hin τ q⟩⟩
    · exact Or.inr ⟨b1, τ, b2.1, b3, fun τ' q => b4 τ' ⟨q, hin τ' q⟩⟩
end LEAST
