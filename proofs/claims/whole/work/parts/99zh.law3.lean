/-! the law: what stays, and what both sides' contracts ask -/
theorem rdH_lt {h h' : xHp} {cl flt plc : Int32} (x : rdH h cl flt plc) (e : ∀ q, q < 205 → h'.1 q = h.1 q) : rdH h' cl flt plc := by
  obtain ⟨at9, fn, ts, ty, st, wd, fs, r1, r2, r3, r4, r5, r6⟩ := x
  exact ⟨at9, fn, ts, ty, st, wd, fs, (e _ (by decide)).trans r1, (e _ (by decide)).trans r2, (e _ (by decide)).trans r3, (e _ (by decide)).trans r4, (e _ (by decide)).trans r5, (e _ (by decide)).trans r6⟩
theorem jnI_lt {h h' : xHp} (x : jnI h) (e : ∀ q, q < 205 → h'.1 q = h.1 q) : jnI h' := by
  obtain ⟨m0, r0, aim0, rd0, wt0, en0, θ0, lθ, e1, e2, e3⟩ := x
  exact ⟨m0, r0, aim0, rd0, wt0, en0, θ0, lθ, (e _ (by decide)).trans e1, (e _ (by decide)).trans e2, (e _ (by decide)).trans e3⟩
theorem jgG_lt {h h' : xHp} (x : jgG h) (e : ∀ q, q < 205 → h'.1 q = h.1 q) : jgG h' := by
  obtain ⟨e1, rn, e2⟩ := x
  exact ⟨(e _ (by decide)).trans e1, rn, (e _ (by decide)).trans e2⟩
theorem md_lt {h h' : xHp} {f g : Nat → Int32} (x : ∃ (c : Nat → Int32) (clk : Int32), mdAt h 192 193 194 195 true f g c clk) (e : ∀ q, q < 205 → h'.1 q = h.1 q) : ∃ (c : Nat → Int32) (clk : Int32), mdAt h' 192 193 194 195 true f g c clk := by
  obtain ⟨c, clk, e1, e2, e3, e4⟩ := x
  exact ⟨c, clk, (e _ (by decide)).trans e1, (e _ (by decide)).trans e2, (e _ (by decide)).trans e3, (e _ (by decide)).trans e4⟩
theorem spH_lt {h h' : xHp} (x : spH h) (e : ∀ q, q < 205 → h'.1 q = h.1 q) : spH h' := by
  obtain ⟨f, g, c, clk, ⟨e1, e2, e3, e4⟩, e5⟩ := x
  exact ⟨f, g, c, clk, ⟨(e _ (by decide)).trans e1, (e _ (by decide)).trans e2, (e _ (by decide)).trans e3, (e _ (by decide)).trans e4⟩, e5⟩
theorem ctH_lt {h h' : xHp} {cn : Nat} {ct : Nat → Int32} (x : ctH h cn ct) (e : ∀ q, q < 205 → h'.1 q = h.1 q) : ctH h' cn ct := by
  obtain ⟨gl, kb, cc, ca, pk, e1, e2, e3, e4⟩ := x
  exact ⟨gl, kb, cc, ca, pk, (e _ (by decide)).trans e1, (e _ (by decide)).trans e2, (e _ (by decide)).trans e3, (e _ (by decide)).trans e4⟩
theorem XH.lt {h h' : xHp} {tsz : Nat} {tp : Nat → Int32} {rc : Nat} {fc : Int32} {nt : Nat} {nk : Nat} {lf : Nat → Int32} {ra : Nat → Nat} {V : Nat → RV} {kw : Nat → Int64} {tw : Nat → Int64} {pf : Nat → Int32} {fr : Nat → Int32} {cl : Int32} {flt : Int32} {plc : Int32} {ns : Bool} {f : Nat → Int32} {g : Nat → Int32} {cn : Nat} {ct : Nat → Int32} {rn : Nat} {rs : Nat → Int32} {tr : Int32} (x : XH h tsz tp rc fc nt nk lf ra V kw tw pf fr cl flt plc ns f g cn ct rn rs tr) (hn : h.2 ≤ h'.2) (e : ∀ q, q < 205 → h'.1 q = h.1 q) : XH h' tsz tp rc fc nt nk lf ra V kw tw pf fr cl flt plc ns f g cn ct rn rs tr := ⟨Nat.le_trans x.n hn, (e _ (by decide)).trans x.c, (e _ (by decide)).trans x.t, bkF_keep x.b (fun q _ q2 => e q (by omega)), rdH_lt x.r e, jnI_lt x.j e, jgG_lt x.g e, md_lt x.m e, spH_lt x.s e, ctH_lt x.k e, (e _ (by decide)).trans x.e⟩
theorem XT.lt {h h' : xHp} {tsz : Nat} {tp : Nat → Int32} {rc : Nat} {fc : Int32} {nt : Nat} {nk : Nat} {lf : Nat → Int32} {ra : Nat → Nat} {V : Nat → RV} {kw : Nat → Int64} {tw : Nat → Int64} {pf : Nat → Int32} {fr : Nat → Int32} {cl : Int32} {flt : Int32} {plc : Int32} {s : Nat → Option Nat} {cn : Nat} {ct : Nat → Int32} {rn : Nat} {rs : Nat → Int32} {tr : Int32} (x : XT h tsz tp rc fc nt nk lf ra V kw tw pf fr cl flt plc s cn ct rn rs tr) (hn : h.2 ≤ h'.2) (e : ∀ q, q < 205 → h'.1 q = h.1 q) : XT h' tsz tp rc fc nt nk lf ra V kw tw pf fr cl flt plc s cn ct rn rs tr := by
  obtain ⟨ns, f, g, h1, h2⟩ := x
  exact ⟨ns, f, g, h1, h2.lt hn e⟩
theorem XT.c1 {h : xHp} {tsz : Nat} {tp : Nat → Int32} {rc : Nat} {fc : Int32} {nt : Nat} {nk : Nat} {lf : Nat → Int32} {ra : Nat → Nat} {V : Nat → RV} {kw : Nat → Int64} {tw : Nat → Int64} {pf : Nat → Int32} {fr : Nat → Int32} {cl : Int32} {flt : Int32} {plc : Int32} {s : Nat → Option Nat} {cn : Nat} {ct : Nat → Int32} {rn : Nat} {rs : Nat → Int32} {tr : Int32} (X : XT h tsz tp rc fc nt nk lf ra V kw tw pf fr cl flt plc s cn ct rn rs tr) : ∃ fs, h.1 1 = some (.inr (11, fs)) := by
  obtain ⟨ns, f, g, h1, h2⟩ := X
  exact ⟨_, h2.c⟩
theorem XT.of {h : xHp} {tsz : Nat} {tp : Nat → Int32} {rc : Nat} {fc : Int32} {nt : Nat} {nk : Nat} {lf : Nat → Int32} {ra : Nat → Nat} {V : Nat → RV} {kw : Nat → Int64} {tw : Nat → Int64} {pf : Nat → Int32} {fr : Nat → Int32} {cl : Int32} {flt : Int32} {plc : Int32} {ns : Bool} {f : Nat → Int32} {g : Nat → Int32} {cn : Nat} {ct : Nat → Int32} {rn : Nat} {rs : Nat → Int32} {tr : Int32} {s : Nat → Option Nat} (x : XH h tsz tp rc fc nt nk lf ra V kw tw pf fr cl flt plc false f g cn ct rn rs tr) : XT h tsz tp rc fc nt nk lf ra V kw tw pf fr cl flt plc s cn ct rn rs tr := ⟨false, f, g, fun z => (by cases z), x⟩
theorem XT.of2 {h : xHp} {tsz : Nat} {tp : Nat → Int32} {rc : Nat} {fc : Int32} {nt : Nat} {nk : Nat} {lf : Nat → Int32} {ra : Nat → Nat} {V : Nat → RV} {kw : Nat → Int64} {tw : Nat → Int64} {pf : Nat → Int32} {fr : Nat → Int32} {cl : Int32} {flt : Int32} {plc : Int32} {ns : Bool} {f : Nat → Int32} {g : Nat → Int32} {cn : Nat} {ct : Nat → Int32} {rn : Nat} {rs : Nat → Int32} {tr : Int32} {s : Nat → Option Nat} (hns : ns = true → stl s f g) (x : XH h tsz tp rc fc nt nk lf ra V kw tw pf fr cl flt plc ns f g cn ct rn rs tr) : XT h tsz tp rc fc nt nk lf ra V kw tw pf fr cl flt plc s cn ct rn rs tr := ⟨ns, f, g, hns, x⟩
theorem rmT.x {h h' : xHp} {rf : Nat → Option Nat} {n : Nat} {V : Nat → RV} (r : rmT h rf n V) (f : xKp h h') : rmT h' rf n V := fun k hk => by
  obtain ⟨a, a1, a2, a3, a4⟩ := r k hk
  exact ⟨a, a1, a2, by rw [f.1]; exact a3, a4.fr (fun q q1 q2 => f.2 q (by omega))⟩
/-! RULES: what is asked of them -/
theorem cov_of {q : PQ} {v : RV} (h : rlD q v) : covR v := by
  obtain ⟨h1, h2, h3, ⟨h4, h5, h6, h7, h8⟩, h9⟩ := h
  intro s hs hh
  have hlt : s < mS v v.2.2.1 := by
    rcases hh with ⟨m, m1, m2⟩ | z
    · exact sg_lt h4 m s m1 hs m2
    · obtain ⟨m, m1, m2⟩ := h1.2.2.2.2.2 s hs z
      exact sg_lt h4 m s m1 hs m2
  exact h8 s hlt
theorem sgR_of {q : PQ} {v : RV} (h : rlD q v) : sgR v := rl_sg h.1 h.2.2.2.1.1 h.2.2.2.1.2.1 h.2.2.2.2
theorem cvS_of {q : PQ} {v : RV} (h : rlD q v) : cvS v := fun s hs => by
  obtain ⟨i, i1, _, i3⟩ := h.2.2.2.1.2.2.2.2 s (by rw [h.2.2.2.1.2.1]; exact hs)
  exact ⟨i, i1, i3⟩
theorem isst_cg {F : Nat → Bool} {V : Nat → RV} {rc : Nat} {U U' : Nat → Bool} {nt : Nat} {s : Nat → Option Nat} (h : IsSt F V rc U nt s) (e : ∀ r, r < rc → U' r = U r) : IsSt F V rc U' nt s := by
  refine ⟨h.1, fun r τ d hr hU => h.2.1 r τ d hr (by rw [← e r hr]; exact hU), fun n d hn hs => ?_⟩
  rcases h.2.2 n d hn hs with z | ⟨r, r1, r2, r3⟩
  · exact Or.inl z
  · exact Or.inr ⟨r, r1, by rw [e r r1]; exact r2, r3⟩
theorem uR_m {rc : Nat} (hrc : rc ≤ 20) : ∀ r, r < rc → uR (-1) r = true := fun r hr => decide_eq_true (nI_m1 (by omega))
theorem uR_n {rc ρ : Nat} (hrc : rc ≤ 20) (hρ : ρ < rc) : ∀ r, r < rc → uR (nI ρ) r = decide (r ≠ ρ) := fun r hr => by
  unfold uR
  have : (¬ nI r = nI ρ) ↔ r ≠ ρ := not_congr (nI_eq (by omega) (by omega))
  exact decide_eq_decide.mpr this
def fOk (q : PQ) (S : Nat → Bool) : Prop := ∀ n, n < 1000 → S n = true → okAtom q.2.2.1 q.1 q.2.2.2.2 n
theorem at_places {nt : Nat} {pc : Nat → Nat} {t : Nat → Int32} {τ : Nat → Nat} {n : Nat} (hp : plH pc t) (h2 : okA nt (t 2)) (h3 : okA nt (t 3)) (hn : nt ≤ 10) (hτ : ∀ s, s < 3 → sgIn t s → τ s < nt) (e : nmT t τ = n) (hk : (t 1).toNatClampNeg = n / 100) : (if 0 < pc (n / 100) then n / 10 % 10 < nt else n / 10 % 10 = 0) ∧ (if 1 < pc (n / 100) then n % 10 < nt else n % 10 = 0) := by
  have h9 := nmT_k (t := t) (τ := τ) h2 h3 hn (fun s hs q => by have := hτ s hs q; omega)
  rw [e] at h9
  obtain ⟨-, k2, k3⟩ := h9
  obtain ⟨p1, p2⟩ := hp
  rw [hk] at p1 p2
  have lt : ∀ {a : Int32}, okA nt a → (∀ s, s < 3 → a = nI (100 + s) → τ s < nt) → ¬ a = -1 → thT a τ < nt := fun {a} ha ht hne => by
    rcases ha with z | ⟨x, x1, rfl⟩ | ⟨s, s1, rfl⟩
    · exact absurd z hne
    · rw [show thT (nI x) τ = x from thO_th (by omega) _]; exact x1
    · rw [thT_sg s1]; exact ht s s1 rfl
  constructor
  · split
    next z => rw [k2]; exact lt h2 (fun s hs q => hτ s hs (Or.inl q)) (fun q => by have := p1.mp q; omega)
    next z => rw [k2, p1.mpr (by omega)]; rfl
  · split
    next z => rw [k3]; exact lt h3 (fun s hs q => hτ s hs (Or.inr q)) (fun q => by have := p2.mp q; omega)
    next z => rw [k3, p2.mpr (by omega)]; rfl
theorem st_ok {q : PQ} {V : Nat → RV} {rc : Nat} {F U : Nat → Bool} {s : Nat → Option Nat} (hq : q.1 ≤ 10) (hr : ∀ r, r < rc → rlD q (V r)) (hF : fOk q F) (h : IsSt F V rc U q.1 s) : ∀ n, n < 1000 → s n ≠ none → okAtom q.2.2.1 q.1 q.2.2.2.2 n := by
  intro n hn hs
  cases z : s n with
  | none => exact absurd z hs
  | some d =>
    rcases h.2.2 n d hn z with w | ⟨r, r1, _, τ, t1, _, t3, _⟩
    · exact hF n hn w
    · have hd := hr r r1
      have hv := hd.1
      have hk := head_k hv hq t1
      rw [t3] at hk
      refine ⟨by rw [hk.2]; exact hd.2.2.1, ?_⟩
      exact at_places hd.2.2.2.1.2.2.1 hv.2.2.2.1 hv.2.2.2.2.1 hq (fun s hs q => t1 s hs (hv.2.2.2.2.2 s hs q)) t3 hk.2.symm
theorem pw_of {q : PQ} {V : Nat → RV} {rc : Nat} {s : Nat → Option Nat} (hr : ∀ r, r < rc → rlD q (V r)) (hs : ∀ n, n < 1000 → s n ≠ none → okAtom q.2.2.1 q.1 q.2.2.2.2 n) : pwA V rc q.1 s := by
  intro r hr9 n j hn hsn hj h0 hk
  obtain ⟨o1, o2, o3⟩ := hs n hn hsn
  obtain ⟨pl, _⟩ := (hr r hr9).2.2.2.1.2.2.2.1 j hj (by rw [h0]; decide)
  obtain ⟨p1, p2⟩ := pl
  rw [← hk] at p1 p2
  have m1 : (-1 : Int32) < 100 := by decide
  constructor
  · intro z
    have hne : ¬ (V r).2.1 j 2 = -1 := fun y => z (by rw [y]; exact m1)
    rw [if_pos (Nat.pos_of_ne_zero (fun y => hne (p1.mpr y)))] at o2; exact o2
  · intro z
    have hne : ¬ (V r).2.1 j 3 = -1 := fun y => z (by rw [y]; exact m1)
    rw [if_pos (Nat.lt_of_not_le (fun y => hne (p2.mpr (by omega))))] at o3; exact o3
theorem fOk_flip {q : PQ} {S : Nat → Bool} {n : Nat} (h : fOk q S) (hn : okAtom q.2.2.1 q.1 q.2.2.2.2 n) : fOk q (flipS S n) := fun k hk hs => by
  unfold flipS at hs
  by_cases z : k = n
  · rw [z]; exact hn
  · rw [if_neg z] at hs; exact h k hk hs
theorem fOk_min {q : PQ} {S : Nat → Bool} {m : Nat} {D : Nat → Nat} (h : fOk q S) : fOk q (minS S m D) := fun k hk hs => by
  unfold minS at hs
  simp only [Bool.and_eq_true] at hs
  exact h k hk hs.1
theorem mxS_no9 {s : Nat → Option Nat} {n : Nat} : ∀ {m : Nat}, (∀ k, n ≤ k → k < n + m → s k = none) → mxS s (n + m) = mxS s n
  | 0, _ => rfl
  | m + 1, h => by
    show max (mxS s (n + m)) ((s (n + m)).getD 0) = _
    rw [mxS_no9 (fun k h1 h2 => h k h1 (by omega)), h (n + m) (by omega) (by omega)]
    show max _ 0 = _
    omega
/-! answers are one thing -/
theorem askA_eq {nk nt : Nat} {pc : Nat → Nat} {a r r' : Int32} {P : Nat → Int32 → Prop} (hnk : nk ≤ 10) (hP : ∀ n x y, n < 1000 → P n x → P n y → x = y) (h : askA nk nt pc a r P) (h' : askA nk nt pc a r' P) : r = r' := by
  rcases h with ⟨n, a1, a2, a3⟩ | ⟨a1, a2⟩ <;> rcases h' with ⟨n', b1, b2, b3⟩ | ⟨b1, b2⟩
  · have h1 : n < 1000 := by have := a2.1; omega
    have h2 : n' < 1000 := by have := b2.1; omega
    have e : n = n' := (nI_eq (by omega) (by omega)).mp (a1.symm.trans b1)
    subst e
    exact hP n r r' h1 a3 b3
  · exact absurd ⟨n, a1, by have := a2.1; omega, a2⟩ b1
  · exact absurd ⟨n', b1, by have := b2.1; omega, b2⟩ a1
  · rw [a2, b2]
theorem askK_eq {nk : Nat} {a r r' : Int32} {P : Nat → Int32 → Prop} (hnk : nk ≤ 10) (hP : ∀ n x y, P n x → P n y → x = y) (h : askK nk a r P) (h' : askK nk a r' P) : r = r' := by
  rcases h with ⟨n, a1, a2, a3⟩ | ⟨a1, a2⟩ <;> rcases h' with ⟨n', b1, b2, b3⟩ | ⟨b1, b2⟩
  · have e : n = n' := (nI_eq (by omega) (by omega)).mp (a2.symm.trans b2)
    subst e
    exact hP n r r' a3 b3
  · exact absurd a2 (inR_f b1 (by omega) n a1)
  · exact absurd b2 (inR_f a1 (by omega) n' b1)
  · rw [a2, b2]
theorem oneP_eq {s : Nat → Option Nat} {k j : Nat} {r r' : Int32} (h : oneP s k j r) (h' : oneP s k j r') : r = r' := by
  rcases h with ⟨m, m1, m2, m3, m4⟩ | ⟨m1, m2⟩ <;> rcases h' with ⟨n, n1, n2, n3, n4⟩ | ⟨n1, n2⟩
  · have := fb_ct_kth_one (p := fun i => (s (100 * k + i)).isSome) m2 n2 (m3.trans n3.symm)
    rw [m4, n4, this]
  · exfalso
    have h1 := fb_ct_mono (fun i => (s (100 * k + i)).isSome) (show m + 1 ≤ 100 by omega)
    rw [fb_ct_succ, m2] at h1
    simp at h1; omega
  · exfalso
    have h1 := fb_ct_mono (fun i => (s (100 * k + i)).isSome) (show n + 1 ≤ 100 by omega)
    rw [fb_ct_succ, n2] at h1
    simp at h1; omega
  · rw [m2, n2]
theorem comR_eq {v : RV} {nt : Nat} {s : Nat → Option Nat} {n : Nat} {r r' : Int32} (h : comR v nt s n r) (h' : comR v nt s n r') : r = r' := by
  rcases h with ⟨a1, a2⟩ | ⟨ρ, a1, a2, ⟨τ, a3, a4⟩, a5⟩ <;> rcases h' with ⟨b1, b2⟩ | ⟨ρ', b1, b2, ⟨τ', b3, b4⟩, b5⟩
  · rw [a2, b2]
  · exact absurd b3 (a1 τ')
  · exact absurd a3 (b1 τ)
  · have := a5 ρ' τ' b2 b3 b4
    have := b5 ρ τ a2 a3 a4
    rw [a1, b1, show ρ = ρ' by omega]
theorem lexL_eq {K : Nat} {a b : Nat → Nat} (h : lexL K a b) (h' : lexL K b a) : ∀ s, s < K → a s = b s := by
  rcases h with h | ⟨s, s1, s2, s3⟩
  · exact h
  · rcases h' with h' | ⟨t, t1, t2, t3⟩
    · exact fun s hs => (h' s hs).symm
    · exfalso
      rcases Nat.lt_trichotomy s t with z | z | z
      · have := t2 s z; omega
      · subst z; omega
      · have := s2 t z; omega
theorem whyP_eq {V : Nat → RV} {rc nt n d ρ ρ' : Nat} {s : Nat → Option Nat} {τ τ' : Nat → Nat} (h : whyP V rc nt s n d ρ τ) (h' : whyP V rc nt s n d ρ' τ') : ρ = ρ' ∧ ∀ k, k < mS (V ρ) (V ρ).2.2.1 → τ k = τ' k := by
  obtain ⟨a1, a2, a3, a4, a5⟩ := h
  obtain ⟨b1, b2, b3, b4, b5⟩ := h'
  have e : ρ = ρ' := by
    rcases Nat.lt_trichotomy ρ ρ' with z | z | z
    · exact absurd a3 (b4 ρ z a2 τ)
    · exact z
    · exact absurd b3 (a4 ρ' z b2 τ')
  subst e
  exact ⟨rfl, lexL_eq (a5 τ' b3) (b5 τ a3)⟩
theorem goP_eq {S : Nat → Bool} {V : Nat → RV} {rc nt n m m' : Nat} {D D' : Nat → Nat} (hm : 1 ≤ m) (hm' : 1 ≤ m') (h : goP S V rc nt n m D) (h' : goP S V rc nt n m' D') : m = m' ∧ ∀ i, i < m → D i = D' i := by
  obtain ⟨a1, a2, a3, a4⟩ := h
  obtain ⟨b1, b2, b3, b4⟩ := h'
  have e : m = m' := by
    rcases Nat.lt_trichotomy m m' with z | z | z
    · exact absurd a2 (b3 m D hm z a1)
    · exact z
    · exact absurd b2 (a3 m' D' hm' z b1)
  subst e
  exact ⟨rfl, lexL_eq (a4 D' b1 b2) (b4 D a1 a2)⟩
