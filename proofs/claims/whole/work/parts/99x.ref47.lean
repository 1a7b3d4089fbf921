/-! THINGS for SIGNS by numbers of ways: what both sides say -/
theorem th_cg {nt : Nat} {a : Int32} {τ τ' : Nat → Nat} (hn : nt ≤ 10) (ha : okA nt a) (h : ∀ s, s < 3 → a = nI (100 + s) → τ s = τ' s) : thT a τ = thT a τ' := by
  rcases ha with rfl | ⟨t, ht, rfl⟩ | ⟨s, hs, rfl⟩
  · rfl
  · exact (thO_th (by omega) _).trans (thO_th (by omega) _).symm
  · rw [thT_sg hs, thT_sg hs]; exact h s hs rfl
theorem nm_cg {nt : Nat} {t : Nat → Int32} {τ τ' : Nat → Nat} (hn : nt ≤ 10) (h2 : okA nt (t 2)) (h3 : okA nt (t 3)) (h : ∀ s, s < 3 → sgIn t s → τ s = τ' s) : nmT t τ = nmT t τ' := by
  have e2 := th_cg hn h2 (fun s hs e => h s hs (Or.inl e))
  have e3 := th_cg hn h3 (fun s hs e => h s hs (Or.inr e))
  show ((t 1).toNatClampNeg * 10 + thT (t 2) τ) * 10 + thT (t 3) τ = ((t 1).toNatClampNeg * 10 + thT (t 2) τ') * 10 + thT (t 3) τ'
  rw [e2, e3]
theorem hold_cg {nt : Nat} {t : Nat → Int32} {τ τ' : Nat → Nat} {S : Nat → Bool} (hn : nt ≤ 10) (h2 : okA nt (t 2)) (h3 : okA nt (t 3)) (h : ∀ s, s < 3 → sgIn t s → τ s = τ' s) : tmHold t τ S = tmHold t τ' S := by
  unfold tmHold
  rw [nm_cg hn h2 h3 h, th_cg hn h2 (fun s hs e => h s hs (Or.inl e)), th_cg hn h3 (fun s hs e => h s hs (Or.inr e))]
theorem mxT_cg {nt : Nat} {v : RV} {τ τ' : Nat → Nat} {s : Nat → Option Nat} (hn : nt ≤ 10) (hv : okRl nt v) (h : ∀ i, i < v.2.2.1 → ∀ s, s < 3 → sgIn (v.2.1 i) s → τ s = τ' s) : ∀ j, j ≤ v.2.2.1 → mxT v τ s j = mxT v τ' s j
  | 0, _ => rfl
  | j + 1, hj => by
    have ht := hv.2.1 j (by omega)
    rw [mxT_s, mxT_s, mxT_cg hn hv h j (by omega), nm_cg hn ht.2.2.1 ht.2.2.2 (h j (by omega))]
theorem rl_sg {nt : Nat} {v : RV} (hv : okRl nt v) (ho : ordR v) (hm : mS v v.2.2.1 = v.2.2.2.2) (h3 : v.2.2.2.2 ≤ 3) : sgR v := by
  refine ⟨h3, fun i s hi hs q => ?_⟩
  rw [← hm]
  cases i with
  | zero => obtain ⟨j, j1, j2⟩ := hv.2.2.2.2.2 s hs q; exact sg_lt ho j s j1 hs j2
  | succ i => exact sg_lt ho i s hi hs q
/-- each SIGN stands in some TERM -/
def cvS (v : RV) : Prop := ∀ s, s < v.2.2.2.2 → ∃ i, i < v.2.2.1 ∧ sgIn (v.2.1 i) s
abbrev hdS (v : RV) (τ : Nat → Nat) (s : Nat → Option Nat) (m : Nat) : Prop := tmHold (v.2.1 m) τ (fun n => (s n).isSome)
theorem can_w {nt : Nat} {v : RV} {s : Nat → Option Nat} (hn : nt ≤ 10) (hv : okRl nt v) (hsg : sgR v) (hc : cvS v) : canH v nt s ↔ ∃ x, x < nt ^ v.2.2.2.2 ∧ ∀ j, j < v.2.2.1 → hdS v (wyT nt v.2.2.2.2 x) s j := by
  constructor
  · rintro ⟨τ, h1, h2⟩
    obtain ⟨x, x1, x2⟩ := wy_ex (nt := nt) (τ := τ) v.2.2.2.2 (fun s hs => by
      obtain ⟨i, i1, i2⟩ := hc s hs
      exact h1 s (by have := hsg.1; omega) ⟨i, Nat.zero_le _, i1, i2⟩)
    refine ⟨x, x1, fun j hj => ?_⟩
    have ht := hv.2.1 j hj
    show tmHold _ _ _
    rw [hold_cg hn ht.2.2.1 ht.2.2.2 (fun s hs q => x2 s (hsg.2 (j + 1) s hj hs q))]
    exact h2 j hj
  · rintro ⟨x, x1, x2⟩
    exact ⟨wyT nt v.2.2.2.2 x, fun s hs ⟨m, _, m2, m3⟩ => wy_lt x1 (hsg.2 (m + 1) s m2 hs m3), x2⟩
theorem hdT_nm {nt : Nat} {v : RV} {τ : Nat → Nat} {n : Nat} (hn : nt ≤ 10) (hv : okRl nt v) (hk : rvH v = n / 100) (h : ∀ s, s < 3 → sgIn v.1 s → τ s < 10) : hdT v τ n ↔ nmT v.1 τ = n := by
  have h9 := nmT_k (t := v.1) (τ := τ) hv.2.2.2.1 hv.2.2.2.2.1 hn h
  have hk : (v.1 1).toNatClampNeg = n / 100 := hk
  unfold hdT
  constructor
  · rintro ⟨a, b⟩; omega
  · intro e; rw [← h9.2.1, ← h9.2.2, e]; exact ⟨rfl, rfl⟩
theorem wy_10 {nt : Nat} {v : RV} (hn : nt ≤ 10) (hsg : sgR v) {x : Nat} (hx : x < nt ^ v.2.2.2.2) {i : Nat} (hi : i ≤ v.2.2.1) : ∀ s, s < 3 → sgIn (tmI v i) s → wyT nt v.2.2.2.2 x s < 10 := fun s hs q => by
  have := wy_lt hx (hsg.2 i s hi hs q)
  omega
theorem lead_w {nt : Nat} {v : RV} {s : Nat → Option Nat} {n d x : Nat} (hn : nt ≤ 10) (hv : okRl nt v) (hsg : sgR v) (hk : rvH v = n / 100) (hx : x < nt ^ v.2.2.2.2) : leadS v nt s n d (wyT nt v.2.2.2.2 x) ↔ nmT v.1 (wyT nt v.2.2.2.2 x) = n ∧ (∀ j, j < v.2.2.1 → hdS v (wyT nt v.2.2.2.2 x) s j) ∧ mxT v (wyT nt v.2.2.2.2 x) s v.2.2.1 + 1 = d := by
  unfold leadS
  rw [hdT_nm hn hv hk (wy_10 hn hsg hx (Nat.zero_le _))]
  constructor
  · rintro ⟨a, b, c⟩; exact ⟨a, b.2, c⟩
  · rintro ⟨a, b, c⟩; exact ⟨a, ⟨fun s hs ⟨m, _, m2, m3⟩ => wy_lt hx (hsg.2 (m + 1) s m2 hs m3), b⟩, c⟩
theorem lead_x {nt : Nat} {v : RV} {s : Nat → Option Nat} {n d : Nat} {τ : Nat → Nat} (hn : nt ≤ 10) (hv : okRl nt v) (hsg : sgR v) (hc : cvS v) (h : leadS v nt s n d τ) : ∃ x, x < nt ^ v.2.2.2.2 ∧ (∀ s, s < v.2.2.2.2 → wyT nt v.2.2.2.2 x s = τ s) ∧ leadS v nt s n d (wyT nt v.2.2.2.2 x) := by
  obtain ⟨h0, ⟨h1, h2⟩, h3⟩ := h
  obtain ⟨x, x1, x2⟩ := wy_ex (nt := nt) (τ := τ) v.2.2.2.2 (fun s hs => by
    obtain ⟨i, i1, i2⟩ := hc s hs
    exact h1 s (by have := hsg.1; omega) ⟨i, Nat.zero_le _, i1, i2⟩)
  refine ⟨x, x1, x2, ?_, ⟨fun s hs ⟨m, _, m2, m3⟩ => wy_lt x1 (hsg.2 (m + 1) s m2 hs m3), fun j hj => ?_⟩, ?_⟩
  · unfold hdT at h0 ⊢
    rw [th_cg hn hv.2.2.2.1 (fun s hs e => x2 s (hsg.2 0 s (Nat.zero_le _) hs (Or.inl e))), th_cg hn hv.2.2.2.2.1 (fun s hs e => x2 s (hsg.2 0 s (Nat.zero_le _) hs (Or.inr e)))]
    exact h0
  · have ht := hv.2.1 j hj
    rw [hold_cg hn ht.2.2.1 ht.2.2.2 (fun s hs q => x2 s (hsg.2 (j + 1) s hj hs q))]
    exact h2 j hj
  · rw [mxT_cg hn hv (fun i hi s hs q => x2 s (hsg.2 (i + 1) s hi hs q)) _ (Nat.le_refl _)]; exact h3
/-- a way that does what these THINGS do for so many TERMS -/
theorem pre_w {nt : Nat} {v : RV} {s : Nat → Option Nat} {n j : Nat} {τ : Nat → Nat} (hn : nt ≤ 10) (hv : okRl nt v) (hsg : sgR v) (hk : rvH v = n / 100) (hp : 0 < nt ^ v.2.2.2.2) (b2 : ¬ v.1 2 < 100 → n / 10 % 10 < nt) (b3 : ¬ v.1 3 < 100 → n % 10 < nt) (h0 : hdT v τ n) (hj : j ≤ v.2.2.1) (h : prS v nt s τ j) : ∃ x, x < nt ^ v.2.2.2.2 ∧ nmT v.1 (wyT nt v.2.2.2.2 x) = n ∧ ∀ m, m < j → hdS v (wyT nt v.2.2.2.2 x) s m := by
  have ge : ∀ {s : Nat}, s < 3 → ¬ nI (100 + s) < 100 := fun {s} hs => by rw [show (100 : Int32) = nI 100 from rfl, nI_ltI (by omega) (by omega)]; omega
  have hh : ∀ s, s < 3 → sgIn v.1 s → τ s < nt := fun s hs q => by
    rcases q with q | q
    · have := b2 (by rw [q]; exact ge hs)
      have e := h0.1
      rw [q, thT_sg hs] at e; omega
    · have := b3 (by rw [q]; exact ge hs)
      have e := h0.2
      rw [q, thT_sg hs] at e; omega
  obtain ⟨x, x1, x2⟩ := wy_ex (nt := nt) (τ := fun s => if τ s < nt then τ s else 0) v.2.2.2.2 (fun s hs => by
    show (if τ s < nt then τ s else 0) < nt
    split
    · assumption
    · exact Nat.pos_of_ne_zero fun z => by
        subst z; rw [Nat.zero_pow (by omega)] at hp; exact absurd hp (Nat.not_lt_zero _))
  refine ⟨x, x1, ?_, fun m hm => ?_⟩
  · rw [← hdT_nm hn hv hk (wy_10 hn hsg x1 (Nat.zero_le _))]
    unfold hdT at h0 ⊢
    have cg : ∀ s, s < 3 → sgIn v.1 s → wyT nt v.2.2.2.2 x s = τ s := fun s hs q => by
      rw [x2 s (hsg.2 0 s (Nat.zero_le _) hs q)]
      exact if_pos (hh s hs q)
    rw [th_cg hn hv.2.2.2.1 (fun s hs e => cg s hs (Or.inl e)), th_cg hn hv.2.2.2.2.1 (fun s hs e => cg s hs (Or.inr e))]
    exact h0
  · have ht := hv.2.1 m (by omega)
    show tmHold _ _ _
    rw [hold_cg hn ht.2.2.1 ht.2.2.2 (τ' := τ) (fun s hs q => by
      rw [x2 s (hsg.2 (m + 1) s (by omega) hs q)]
      exact if_pos (h.1 s hs ⟨m, Nat.zero_le _, hm, q⟩))]
    exact h.2 m hm
/-- how far it comes by the ways so far -/
def cmB (v : RV) (nt : Nat) (s : Nat → Option Nat) (n x : Nat) (r : Int32) : Prop := (r = -2 ∧ ∀ y, y < x → nmT v.1 (wyT nt v.2.2.2.2 y) ≠ n) ∨ ∃ ρ, r = nI ρ ∧ ρ ≤ v.2.2.1 ∧ (∃ y, y < x ∧ nmT v.1 (wyT nt v.2.2.2.2 y) = n ∧ ∀ m, m < ρ → hdS v (wyT nt v.2.2.2.2 y) s m) ∧ ∀ y j, y < x → nmT v.1 (wyT nt v.2.2.2.2 y) = n → j ≤ v.2.2.1 → (∀ m, m < j → hdS v (wyT nt v.2.2.2.2 y) s m) → j ≤ ρ
theorem cmB_0 {v : RV} {nt : Nat} {s : Nat → Option Nat} {n : Nat} : cmB v nt s n 0 (-2) := Or.inl ⟨rfl, fun y hy => absurd hy (Nat.not_lt_zero _)⟩
theorem cmB_no {v : RV} {nt : Nat} {s : Nat → Option Nat} {n x : Nat} {r : Int32} (h : cmB v nt s n x r) (hx : ¬ nmT v.1 (wyT nt v.2.2.2.2 x) = n) : cmB v nt s n (x + 1) r := by
  rcases h with ⟨e, h⟩ | ⟨ρ, e, h1, ⟨y, y1, y2⟩, h3⟩
  · exact Or.inl ⟨e, fun y hy => by by_cases q : y = x; (rw [q]; exact hx); exact h y (by omega)⟩
  · exact Or.inr ⟨ρ, e, h1, ⟨y, by omega, y2⟩, fun y j hy hq => by by_cases q : y = x; (rw [q] at hq; exact absurd hq hx); exact h3 y j (by omega) hq⟩
theorem cmB_yes {v : RV} {nt : Nat} {s : Nat → Option Nat} {n x c : Nat} {r : Int32} (hz : v.2.2.1 ≤ 4) (h : cmB v nt s n x r) (hx : nmT v.1 (wyT nt v.2.2.2.2 x) = n) (hc : c ≤ v.2.2.1) (h1 : ∀ m, m < c → hdS v (wyT nt v.2.2.2.2 x) s m) (h2 : c = v.2.2.1 ∨ ¬ hdS v (wyT nt v.2.2.2.2 x) s c) : cmB v nt s n (x + 1) (if r < nI c then nI c else r) := by
  have hmx : ∀ j, j ≤ v.2.2.1 → (∀ m, m < j → hdS v (wyT nt v.2.2.2.2 x) s m) → j ≤ c := fun j hj hm => by
    rcases h2 with z | z
    · omega
    · rcases Nat.lt_or_ge c j with y | y
      · exact absurd (hm c y) z
      · exact y
  rcases h with ⟨e, h⟩ | ⟨ρ, e, g1, ⟨y, y1, y2⟩, g3⟩
  · subst e
    rw [if_pos (by rw [Int32.lt_iff_toInt_lt, nI_toInt (by omega)]; have : ((-2 : Int32)).toInt = -2 := by decide
                   omega)]
    refine Or.inr ⟨c, rfl, hc, ⟨x, by omega, hx, h1⟩, fun y j hy hq hj hm => ?_⟩
    by_cases q : y = x
    · rw [q] at hm; exact hmx j hj hm
    · exact absurd hq (h y (by omega))
  · subst e
    by_cases z : ρ < c
    · rw [if_pos ((nI_ltI (by omega) (by omega)).mpr z)]
      refine Or.inr ⟨c, rfl, hc, ⟨x, by omega, hx, h1⟩, fun y j hy hq hj hm => ?_⟩
      by_cases q : y = x
      · rw [q] at hm; exact hmx j hj hm
      · have := g3 y j (by omega) hq hj hm; omega
    · rw [if_neg (fun q => z ((nI_ltI (by omega) (by omega)).mp q))]
      refine Or.inr ⟨ρ, rfl, g1, ⟨y, by omega, y2⟩, fun y j hy hq hj hm => ?_⟩
      by_cases q : y = x
      · rw [q] at hm; have := hmx j hj hm; omega
      · exact g3 y j (by omega) hq hj hm
theorem cmB_com {v : RV} {nt : Nat} {s : Nat → Option Nat} {n : Nat} {r : Int32} (hn : nt ≤ 10) (hv : okRl nt v) (hsg : sgR v) (hk : rvH v = n / 100) (hp : 0 < nt ^ v.2.2.2.2) (b2 : ¬ v.1 2 < 100 → n / 10 % 10 < nt) (b3 : ¬ v.1 3 < 100 → n % 10 < nt) (h : cmB v nt s n (nt ^ v.2.2.2.2) r) : comR v nt s n r := by
  rcases h with ⟨e, h⟩ | ⟨ρ, e, g1, ⟨y, y1, y2, y3⟩, g3⟩
  · refine Or.inl ⟨fun τ h0 => ?_, e⟩
    obtain ⟨x, x1, x2, _⟩ := pre_w (s := s) (j := 0) hn hv hsg hk hp b2 b3 h0 (Nat.zero_le _) ⟨fun s _ ⟨m, _, m2, _⟩ => absurd m2 (Nat.not_lt_zero _), fun m hm => absurd hm (Nat.not_lt_zero _)⟩
    exact h x x1 x2
  · refine Or.inr ⟨ρ, e, g1, ⟨wyT nt v.2.2.2.2 y, (hdT_nm hn hv hk (wy_10 hn hsg y1 (Nat.zero_le _))).mpr y2, fun s hs ⟨m, _, m2, m3⟩ => wy_lt y1 (hsg.2 (m + 1) s (by omega) hs m3), y3⟩, fun j τ hj h0 hpr => ?_⟩
    obtain ⟨x, x1, x2, x3⟩ := pre_w hn hv hsg hk hp b2 b3 h0 hj hpr
    exact g3 x j x1 x2 hj x3
/-- no SIGN in the first so many TERMS, which hold -/
def baS (v : RV) (s : Nat → Option Nat) (b : Nat) : Prop := ∀ m, m < b → (v.2.1 m 2 < 100 ∧ v.2.1 m 3 < 100) ∧ hdS v (fun _ => 0) s m
theorem sg_no {t : Nat → Int32} (h2 : t 2 < 100) (h3 : t 3 < 100) {s : Nat} (hs : s < 3) (q : sgIn t s) : False := by
  have ge : ¬ nI (100 + s) < 100 := by rw [show (100 : Int32) = nI 100 from rfl, nI_ltI (by omega) (by omega)]; omega
  rcases q with q | q
  · rw [q] at h2; exact ge h2
  · rw [q] at h3; exact ge h3
theorem bare_com {v : RV} {nt : Nat} {s : Nat → Option Nat} {n b : Nat} (hn : nt ≤ 10) (hv : okRl nt v) (hp : nt ^ v.2.2.2.2 = 0) (hpl : plN v n) (b2 : ¬ v.1 2 < 100 → n / 10 % 10 < nt) (b3 : ¬ v.1 3 < 100 → n % 10 < nt) (hb : b ≤ v.2.2.1) (h : baS v s b) (he : b = v.2.2.1 ∨ ¬ v.2.1 b 2 < 100 ∨ ¬ v.2.1 b 3 < 100 ∨ ¬ hdS v (fun _ => 0) s b) : comR v nt s n (nI b) := by
  have h0 : nt = 0 := Nat.eq_zero_of_not_pos fun z => by have := Nat.pow_pos (n := v.2.2.2.2) z; omega
  subst h0
  have hd : ∀ {a : Int32} {y : Nat}, okA 0 a → (¬ a < 100 → y < 0) → (a = -1 → y = 0) → ∀ τ, thT a τ = y := fun {a y} ha q1 q2 τ => by
    rcases ha with rfl | ⟨t, ht, rfl⟩ | ⟨k, hk, rfl⟩
    · rw [q2 rfl]; rfl
    · exact absurd ht (Nat.not_lt_zero _)
    · exact absurd (q1 (by rw [show (100 : Int32) = nI 100 from rfl, nI_ltI (by omega) (by omega)]; omega)) (Nat.not_lt_zero _)
  have hcg : ∀ m, m < v.2.2.1 → v.2.1 m 2 < 100 → v.2.1 m 3 < 100 → ∀ τ, hdS v τ s m = hdS v (fun _ => 0) s m := fun m hm a2 a3 τ => hold_cg hn (hv.2.1 m hm).2.2.1 (hv.2.1 m hm).2.2.2 (fun k hk q => (sg_no a2 a3 hk q).elim)
  refine Or.inr ⟨b, rfl, hb, ⟨fun _ => 0, ⟨hd hv.2.2.2.1 b2 hpl.1 _, hd hv.2.2.2.2.1 b3 hpl.2 _⟩, fun k hk ⟨m, _, m2, m3⟩ => (sg_no (h m m2).1.1 (h m m2).1.2 hk m3).elim, fun m hm => (h m hm).2⟩, fun j τ hj _ hpr => ?_⟩
  rcases Nat.lt_or_ge b j with y | y
  · exfalso
    have ns : ∀ x : Int32, okA 0 x → (x = v.2.1 b 2 ∨ x = v.2.1 b 3) → x < 100 := fun x hx hx2 => by
      rcases hx with rfl | ⟨t, ht, rfl⟩ | ⟨k, hk, rfl⟩
      · decide
      · exact absurd ht (Nat.not_lt_zero _)
      · exact absurd (hpr.1 k hk ⟨b, Nat.zero_le _, y, by rcases hx2 with z | z; exact Or.inl z.symm; exact Or.inr z.symm⟩) (Nat.not_lt_zero _)
    have a2 := ns _ (hv.2.1 b (by omega)).2.2.1 (Or.inl rfl)
    have a3 := ns _ (hv.2.1 b (by omega)).2.2.2 (Or.inr rfl)
    rcases he with z | z | z | z
    · omega
    · exact z a2
    · exact z a3
    · refine z ?_
      rw [← hcg b (by omega) a2 a3 τ]
      exact hpr.2 b y
  · exact y
