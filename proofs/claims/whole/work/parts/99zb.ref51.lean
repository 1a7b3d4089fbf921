/-! the reference: loses, its mathematics -/
theorem minS_cg9 {S : Nat → Bool} {m : Nat} {D D' : Nat → Nat} (h : ∀ i, i < m → D i = D' i) : minS S m D = minS S m D' := by
  funext n
  have e : inD D m n = inD D' m n := by
    cases q : inD D' m n with
    | true => obtain ⟨i, a, b⟩ := inD_iff.mp q; exact inD_iff.mpr ⟨i, a, by rw [h i a]; exact b⟩
    | false =>
      cases p : inD D m n with
      | false => rfl
      | true => obtain ⟨i, a, b⟩ := inD_iff.mp p; rw [inD_iff.mpr ⟨i, a, by rw [← h i a]; exact b⟩] at q; cases q
  show (S n && !inD D m n) = (S n && !inD D' m n)
  rw [e]
theorem minS_t {S : Nat → Bool} {m c : Nat} {D : Nat → Nat} (hS : S c = true) (hD : ∀ i, i < m → D i ≠ c) : minS S m D c = true := by
  have : inD D m c = false := by
    cases q : inD D m c with
    | false => rfl
    | true => obtain ⟨i, a, b⟩ := inD_iff.mp q; exact absurd b (hD i a)
  simp [minS, hS, this]
theorem lz_ap {S : Nat → Bool} {t c : Nat} {D : Nat → Nat} (hS : S c = true) (hD : ∀ i, i < t → D i ≠ c) : flipS (minS S t D) c = minS S (t + 1) (apF D t c) := by
  have h1 := minS_s (S := S) (m := t) (D := apF D t c) (by rw [apF_at]; exact hS) (fun i hi => by rw [apF_at, apF_ne (by omega)]; exact hD i hi)
  rw [apF_at] at h1
  rw [← h1, minS_cg9 (D := D) (D' := apF D t c) (fun i hi => (apF_ne (by omega)).symm)]
theorem lz_dn {S : Nat → Bool} {t c : Nat} {D : Nat → Nat} {f : Nat → Int32} (h : ∀ j, j < 1000 → f j = bi (minS S t D j)) (hS : S c = true) (hD : ∀ i, i < t → D i ≠ c) : ∀ j, j < 1000 → upd f c 0 j = bi (minS S (t + 1) (apF D t c) j) := by
  rw [← lz_ap hS hD]
  exact flip_to h (by rw [minS_t hS hD]; rfl)
theorem lz_up {S : Nat → Bool} {t c : Nat} {D : Nat → Nat} {f : Nat → Int32} (h : ∀ j, j < 1000 → f j = bi (minS S (t + 1) (apF D t c) j)) (hS : S c = true) (hD : ∀ i, i < t → D i ≠ c) : ∀ j, j < 1000 → upd f c 1 j = bi (minS S t D j) := by
  rw [← lz_ap hS hD] at h
  exact flip_bk h (by rw [minS_t hS hD]; rfl)
/-- the FACTS in their order -/
def cdO (S : Nat → Bool) (N : Nat) (cd : Nat → Nat) : Prop := ∀ k, k < N → cd k < 1000 ∧ S (cd k) = true ∧ fb_ct S (cd k) = k
theorem cdO.lt {S : Nat → Bool} {N : Nat} {cd : Nat → Nat} (h : cdO S N cd) {i j : Nat} (hij : i < j) (hj : j < N) : cd i < cd j := by
  rcases Nat.lt_or_ge (cd i) (cd j) with z | z
  · exact z
  · have := fb_ct_mono S z
    rw [(h i (by omega)).2.2, (h j hj).2.2] at this
    omega
theorem cdO.at {S : Nat → Bool} {N : Nat} {cd : Nat → Nat} (h : cdO S N cd) {n : Nat} (hn : fb_ct S n < N) (hS : S n = true) : cd (fb_ct S n) = n := fb_ct_kth_one (h _ hn).2.1 hS (h _ hn).2.2
/-- so many more, from place p on -/
def exQ (cd : Nat → Nat) (N t p l : Nat) (D E : Nat → Nat) : Prop := (∀ i, i < t → E i = D i) ∧ ∃ Q : Nat → Nat, (∀ i, i < l → E (t + i) = cd (Q i) ∧ p ≤ Q i ∧ Q i < N) ∧ ∀ i j, i < j → j < l → Q i < Q j
theorem exQ_0 {cd : Nat → Nat} {N t p : Nat} {D : Nat → Nat} : exQ cd N t p 0 D D := ⟨fun _ _ => rfl, fun i => i, fun i hi => absurd hi (Nat.not_lt_zero _), fun i j _ hj => absurd hj (Nat.not_lt_zero _)⟩
theorem exQ_in {cd : Nat → Nat} {N t p l k : Nat} {D E : Nat → Nat} (hk : p ≤ k) (hN : k < N) (h : exQ cd N (t + 1) (k + 1) l (apF D t (cd k)) E) : exQ cd N t p (l + 1) D E := by
  obtain ⟨h1, Q, h2, h3⟩ := h
  refine ⟨fun i hi => (h1 i (by omega)).trans (apF_ne (by omega)), fun i => if i = 0 then k else Q (i - 1), fun i hi => ?_, fun i j hij hj => ?_⟩
  · show E (t + i) = cd (if i = 0 then k else Q (i - 1)) ∧ p ≤ (if i = 0 then k else Q (i - 1)) ∧ (if i = 0 then k else Q (i - 1)) < N
    by_cases z : i = 0
    · rw [if_pos z, z]; exact ⟨(h1 t (by omega)).trans (apF_at _ _ _), hk, hN⟩
    · rw [if_neg z]
      obtain ⟨a, b, c⟩ := h2 (i - 1) (by omega)
      rw [show t + 1 + (i - 1) = t + i by omega] at a
      exact ⟨a, by omega, c⟩
  · show (if i = 0 then k else Q (i - 1)) < (if j = 0 then k else Q (j - 1))
    rw [if_neg (show ¬ j = 0 by omega)]
    by_cases z : i = 0
    · rw [if_pos z]; have := (h2 (j - 1) (by omega)).2.1; omega
    · rw [if_neg z]; exact h3 (i - 1) (j - 1) (by omega) (by omega)
theorem exQ_out {cd : Nat → Nat} {N t p l : Nat} {D E : Nat → Nat} (h : exQ cd N t p (l + 1) D E) : ∃ k, p ≤ k ∧ k < N ∧ E t = cd k ∧ exQ cd N (t + 1) (k + 1) l (apF D t (cd k)) E := by
  obtain ⟨h1, Q, h2, h3⟩ := h
  obtain ⟨a, b, c⟩ := h2 0 (by omega)
  refine ⟨Q 0, b, c, a, fun i hi => ?_, fun i => Q (i + 1), fun i hi => ?_, fun i j hij hj => h3 _ _ (by omega) (by omega)⟩
  · by_cases z : i = t
    · rw [z, apF_at]; exact a
    · rw [apF_ne z]; exact h1 i (by omega)
  · obtain ⟨a', _, c'⟩ := h2 (i + 1) (by omega)
    rw [show t + (i + 1) = t + 1 + i by omega] at a'
    exact ⟨a', h3 0 (i + 1) (by omega) (by omega), c'⟩
def fnP (cut : Nat → (Nat → Nat) → Prop) (cd : Nat → Nat) (N t p l : Nat) (D E : Nat → Nat) : Prop := exQ cd N t p l D E ∧ cut (t + l) E ∧ ∀ E', exQ cd N t p l D E' → cut (t + l) E' → lexL (t + l) E E'
def noP (cut : Nat → (Nat → Nat) → Prop) (cd : Nat → Nat) (N t p l : Nat) (D : Nat → Nat) : Prop := ∀ E, exQ cd N t p l D E → ¬ cut (t + l) E
theorem fn_0 {cut : Nat → (Nat → Nat) → Prop} {cd : Nat → Nat} {N t p : Nat} {D : Nat → Nat} (h : cut t D) : fnP cut cd N t p 0 D D := ⟨exQ_0, h, fun E' h' _ => Or.inl (fun s hs => (h'.1 s hs).symm)⟩
theorem no_0 {cut : Nat → (Nat → Nat) → Prop} (hc : ∀ m D D', (∀ i, i < m → D i = D' i) → cut m D → cut m D') {cd : Nat → Nat} {N t p : Nat} {D : Nat → Nat} (h : ¬ cut t D) : noP cut cd N t p 0 D := fun E hE hcut => h (hc t E D hE.1 hcut)
theorem fn_s {S : Nat → Bool} {cut : Nat → (Nat → Nat) → Prop} {cd : Nat → Nat} {N t p l k : Nat} {D E : Nat → Nat} (hcd : cdO S N cd) (hk : p ≤ k) (hN : k < N) (hno : ∀ k', p ≤ k' → k' < k → noP cut cd N (t + 1) (k' + 1) l (apF D t (cd k'))) (h : fnP cut cd N (t + 1) (k + 1) l (apF D t (cd k)) E) : fnP cut cd N t p (l + 1) D E := by
  obtain ⟨h1, h2, h3⟩ := h
  rw [show t + 1 + l = t + (l + 1) by omega] at h2 h3
  refine ⟨exQ_in hk hN h1, h2, fun E' h' c' => ?_⟩
  obtain ⟨k', a, b, e, x⟩ := exQ_out h'
  rcases Nat.lt_trichotomy k' k with z | z | z
  · have := hno k' a z E' x
    rw [show t + 1 + l = t + (l + 1) by omega] at this
    exact absurd c' this
  · rw [z] at x; exact h3 E' x c'
  · have eE : E t = cd k := (h1.1 t (by omega)).trans (apF_at _ _ _)
    refine Or.inr ⟨t, by omega, fun r hr => ?_, ?_⟩
    · rw [(exQ_in hk hN h1).1 r hr, h'.1 r hr]
    · rw [eE, e]; exact hcd.lt z b
theorem no_s {cut : Nat → (Nat → Nat) → Prop} {cd : Nat → Nat} {N t p l : Nat} {D : Nat → Nat} (hno : ∀ k', p ≤ k' → k' < N → noP cut cd N (t + 1) (k' + 1) l (apF D t (cd k'))) : noP cut cd N t p (l + 1) D := fun E hE hc => by
  obtain ⟨k', a, b, _, x⟩ := exQ_out hE
  have := hno k' a b E x
  rw [show t + 1 + l = t + (l + 1) by omega] at this
  exact this hc
theorem cut_cg {S : Nat → Bool} {V : Nat → RV} {rc nt n : Nat} (m : Nat) (D D' : Nat → Nat) (h : ∀ i, i < m → D i = D' i) (hc : cutS S V rc nt n m D) : cutS S V rc nt n m D' := by
  unfold cutS at hc ⊢
  rw [← minS_cg9 h]; exact hc
/-- a row of FACTS is one out of their order -/
theorem ex_ok {S : Nat → Bool} {N : Nat} {cd D0 : Nat → Nat} (hcd : cdO S N cd) (hN : N = fb_ct S 1000) {m : Nat} {D : Nat → Nat} : exQ cd N 0 0 m D0 D ↔ dOk S m D := by
  constructor
  · rintro ⟨_, Q, h2, h3⟩
    have e : ∀ i, i < m → D i = cd (Q i) := fun i hi => by have := (h2 i hi).1; rw [Nat.zero_add] at this; exact this
    refine ⟨fun i hi => ?_, fun i j hij hj => ?_⟩
    · rw [e i hi]; exact ⟨(hcd _ (h2 i hi).2.2).1, (hcd _ (h2 i hi).2.2).2.1⟩
    · rw [e i (by omega), e j hj]; exact hcd.lt (h3 i j hij hj) (h2 j hj).2.2
  · rintro ⟨h1, h2⟩
    have hlt : ∀ i, i < m → fb_ct S (D i) < N := fun i hi => by
      have := fb_ct_mono S (show D i + 1 ≤ 1000 by have := (h1 i hi).1; omega)
      rw [fb_ct_succ, (h1 i hi).2] at this
      rw [hN]; simp at this; omega
    refine ⟨fun i hi => absurd hi (Nat.not_lt_zero _), fun i => fb_ct S (D i), fun i hi => ⟨?_, Nat.zero_le _, hlt i hi⟩, fun i j hij hj => ?_⟩
    · rw [Nat.zero_add]; exact (hcd.at (hlt i hi) (h1 i (by omega)).2).symm
    · have h9 := fb_ct_mono S (show D i + 1 ≤ D j from h2 i j hij hj)
      rw [fb_ct_succ, (h1 i (by omega)).2] at h9
      simp at h9; exact h9
