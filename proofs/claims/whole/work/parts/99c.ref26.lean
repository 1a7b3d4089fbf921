/-! the reference: works, its mathematics -/
/-- the STEPS t on the way to s0: right below layer l, never too small -/
def wkI (S : Nat → Bool) (L : Nat → Nat) (s0 : Nat → Option Nat) (l : Nat) (t : Nat → Option Nat) : Prop := (∀ n, n < 1000 → L (n / 100) < l → t n = s0 n) ∧ (∀ n d, n < 1000 → t n = some d → ∃ d0, s0 n = some d0 ∧ d0 ≤ d) ∧ (∀ n, n < 1000 → S n = true → t n = some 0) ∧ ∀ n d, n < 1000 → t n = some d → d ≤ ctS t
theorem nm_tm {v : RV} {nt j : Nat} {τ : Nat → Nat} (hv : okRl nt v) (hn : nt ≤ 10) (hok : okT v nt τ) (hj : j < v.2.2.1) (h2 : ¬ v.2.1 j 0 = 2) : nmT (v.2.1 j) τ < 1000 ∧ nmT (v.2.1 j) τ / 100 = rvK v j := by
  have ht := hv.2.1 j hj
  have hk := (ht.2.1 h2).2
  have a := thT_lt (τ := τ) ht.2.2.1 hn (fun s hs z => Nat.lt_of_lt_of_le (hok s hs ⟨j, hj, Or.inl z⟩) hn)
  have b := thT_lt (τ := τ) ht.2.2.2 hn (fun s hs z => Nat.lt_of_lt_of_le (hok s hs ⟨j, hj, Or.inr z⟩) hn)
  have e : nmT (v.2.1 j) τ = (rvK v j * 10 + thT (v.2.1 j 2) τ) * 10 + thT (v.2.1 j 3) τ := rfl
  have hk : rvK v j < 10 := hk
  omega
theorem nm_hd {v : RV} {nt : Nat} {τ : Nat → Nat} (hv : okRl nt v) (hn : nt ≤ 10) (hok : okT v nt τ) : nmT v.1 τ < 1000 ∧ nmT v.1 τ / 100 = rvH v := by
  have hsg : ∀ s, s < 3 → sgIn v.1 s → τ s < nt := fun s hs h => by
    obtain ⟨i, hi, h2⟩ := hv.2.2.2.2.2 s hs h
    exact hok s hs ⟨i, hi, h2⟩
  have a := thT_lt (τ := τ) hv.2.2.2.1 hn (fun s hs z => Nat.lt_of_lt_of_le (hsg s hs (Or.inl z)) hn)
  have b := thT_lt (τ := τ) hv.2.2.2.2.1 hn (fun s hs z => Nat.lt_of_lt_of_le (hsg s hs (Or.inr z)) hn)
  have hk : rvH v < 10 := hv.2.2.1.2
  have e : nmT v.1 τ = (rvH v * 10 + thT (v.1 2) τ) * 10 + thT (v.1 3) τ := rfl
  omega
theorem tm_some {t : Nat → Int32} {τ : Nat → Nat} {s : Nat → Option Nat} (h0 : t 0 = 0) : tmHold t τ (fun n => (s n).isSome) ↔ ∃ d, s (nmT t τ) = some d := by
  unfold tmHold
  rw [if_neg (by rw [h0]; decide), if_pos h0]
  show (s (nmT t τ)).isSome = true ↔ _
  generalize s (nmT t τ) = o
  cases o <;> simp
theorem tm_none {t : Nat → Int32} {τ : Nat → Nat} {s : Nat → Option Nat} (h2 : ¬ t 0 = 2) (h0 : ¬ t 0 = 0) : tmHold t τ (fun n => (s n).isSome) ↔ s (nmT t τ) = none := by
  unfold tmHold
  rw [if_neg h2, if_neg h0]
  show (s (nmT t τ)).isSome = false ↔ _
  generalize s (nmT t τ) = o
  cases o <;> simp
theorem tm_un {t : Nat → Int32} {τ : Nat → Nat} {F F' : Nat → Bool} (h2 : t 0 = 2) (h : tmHold t τ F) : tmHold t τ F' := by
  unfold tmHold at h ⊢
  rw [if_pos h2] at h ⊢
  exact h
theorem lay_lt {V : Nat → RV} {rc nt r j : Nat} {L : Nat → Nat} (hV : ∀ r, r < rc → okRl nt (V r)) (hS : Sat V rc L) (hr : r < rc) (hj : j < (V r).2.2.1) (h2 : ¬ (V r).2.1 j 0 = 2) : L (rvK (V r) j) ≤ L (rvH (V r)) ∧ (¬ (V r).2.1 j 0 = 0 → L (rvK (V r) j) < L (rvH (V r))) := by
  have h := lfor_le.mp (hS r hr) j hj h2
  refine ⟨by omega, fun h0 => ?_⟩
  have h1 : (V r).2.1 j 0 = 1 := by rcases ((hV r hr).2.1 j hj).1 with z | z | z; exact absurd z h0; exact z; exact absurd z h2
  rw [if_pos h1] at h
  omega
theorem wkI_step {S : Nat → Bool} {V : Nat → RV} {rc nt : Nat} {U : Nat → Bool} {L : Nat → Nat} {s0 : Nat → Option Nat} (hs : IsSt S V rc U nt s0) (hV : ∀ r, r < rc → okRl nt (V r)) (hn : nt ≤ 10) (hS : Sat V rc L) {r l : Nat} (hr : r < rc) (hU : U r = true) (hl : L (rvH (V r)) = l) : stepI (V r) nt (wkI S L s0 l) := by
  intro s τ e hI he hok hh hpos hgt
  obtain ⟨i1, i2, i3, i4⟩ := hI
  obtain ⟨hd1, hd2⟩ := nm_hd (hV r hr) hn hok
  have hh0 : holdS (V r) τ s0 := fun j hj => by
    have h := hh j hj
    by_cases h2 : (V r).2.1 j 0 = 2
    · exact tm_un h2 h
    · obtain ⟨n1, n2⟩ := nm_tm (hV r hr) hn hok hj h2
      by_cases h0 : (V r).2.1 j 0 = 0
      · obtain ⟨d, hd⟩ := (tm_some h0).mp h
        obtain ⟨d0, e0, _⟩ := i2 _ d n1 hd
        exact (tm_some h0).mpr ⟨d0, e0⟩
      · have h := (tm_none h2 h0).mp h
        rw [i1 _ n1 (by rw [n2, ← hl]; exact (lay_lt hV hS hr hj h2).2 h0)] at h
        exact (tm_none h2 h0).mpr h
  obtain ⟨d0, e0, l0⟩ := hs.2.1 r τ e hr hU hok hh0 (fun j hj h0 => by
    obtain ⟨d, hd, hde⟩ := hpos j hj h0
    obtain ⟨d0, e0, l0⟩ := i2 _ d (nm_tm (hV r hr) hn hok hj (by rw [h0]; decide)).1 hd
    exact ⟨d0, e0, by omega⟩)
  have hlow := setS_low (x := e + 1) hgt
  have hat : ∀ n, setS s (nmT (V r).1 τ) (e + 1) n = if n = nmT (V r).1 τ then some (e + 1) else s n := fun n => rfl
  refine ⟨fun n hn9 hL => ?_, fun n d hn9 hd => ?_, fun n hn9 hF => ?_, fun n d hn9 hd => ?_⟩
  · rw [hat, if_neg (fun z => by rw [z, hd2, hl] at hL; omega)]; exact i1 n hn9 hL
  · rw [hat] at hd
    by_cases z : n = nmT (V r).1 τ
    · rw [if_pos z] at hd; injection hd with hd; rw [z]; exact ⟨d0, e0, by omega⟩
    · rw [if_neg z] at hd; exact i2 n d hn9 hd
  · rw [hat]
    by_cases z : n = nmT (V r).1 τ
    · have := hgt 0 (by rw [← z]; exact i3 n hn9 hF); omega
    · rw [if_neg z]; exact i3 n hn9 hF
  · have hct := hlow.ct
    rw [hat] at hd
    by_cases z : n = nmT (V r).1 τ
    · rw [if_pos z] at hd
      injection hd with hd
      cases y : s (nmT (V r).1 τ) with
      | none =>
        have := ct_strict (p := fun n => (s n).isSome) (q := fun n => (setS s (nmT (V r).1 τ) (e + 1) n).isSome) hd1 (by show (s (nmT (V r).1 τ)).isSome = false; rw [y]; rfl) (by show (setS s (nmT (V r).1 τ) (e + 1) (nmT (V r).1 τ)).isSome = true; rw [hat, if_pos rfl]; rfl) (fun k _ q => by
          cases x : s k with
          | none => rw [x] at q; cases q
          | some d => obtain ⟨d', e', _⟩ := hlow k d x; rw [e']; rfl)
        have this : ctS s + 1 ≤ ctS (setS s (nmT (V r).1 τ) (e + 1)) := this
        omega
      | some d9 =>
        have a := hgt d9 y
        have b := i4 _ d9 hd1 y
        omega
    · rw [if_neg z] at hd
      have := i4 n d hn9 hd
      omega
theorem wkI_next {S : Nat → Bool} {V : Nat → RV} {rc nt : Nat} {U : Nat → Bool} {L : Nat → Nat} {s0 : Nat → Option Nat} (hs : IsSt S V rc U nt s0) (hV : ∀ r, r < rc → okRl nt (V r)) (hn : nt ≤ 10) (hS : Sat V rc L) {l : Nat} {t : Nat → Option Nat} (hI : wkI S L s0 l t) (hC : ∀ r, r < rc → U r = true → L (rvH (V r)) = l → CLo (V r) nt (fun _ => none) 0 0 t) : wkI S L s0 (l + 1) t := by
  obtain ⟨i1, i2, i3, i4⟩ := hI
  have key : ∀ d n, n < 1000 → L (n / 100) = l → s0 n = some d → ∃ d', t n = some d' ∧ d' ≤ d := by
    intro d
    induction d using Nat.strongRecOn with
    | _ d ih =>
      intro n hn9 hl hd
      rcases hs.2.2 n d hn9 hd with hF | ⟨r, hr, hU, τ, hok, hh, hnm, hd0, hp⟩
      · exact ⟨0, i3 n hn9 hF, Nat.zero_le _⟩
      · obtain ⟨hd1, hd2⟩ := nm_hd (hV r hr) hn hok
        have hlr : L (rvH (V r)) = l := by rw [← hd2, hnm]; exact hl
        have hval : ∀ j, j < (V r).2.2.1 → (V r).2.1 j 0 = 0 → ∃ d', t (nmT ((V r).2.1 j) τ) = some d' ∧ d' ≤ d - 1 := fun j hj h0 => by
          obtain ⟨e, he, hed⟩ := hp j hj h0
          have h2 : ¬ (V r).2.1 j 0 = 2 := by rw [h0]; decide
          obtain ⟨n1, n2⟩ := nm_tm (hV r hr) hn hok hj h2
          have hle := (lay_lt hV hS hr hj h2).1
          rcases Nat.lt_or_ge (L (rvK (V r) j)) l with z | z
          · exact ⟨e, by rw [i1 _ n1 (by rw [n2]; exact z)]; exact he, by omega⟩
          · obtain ⟨d', a, b⟩ := ih e (by omega) _ n1 (by rw [n2]; omega) he
            exact ⟨d', a, by omega⟩
        obtain ⟨d', a, b⟩ := hC r hr hU hlr τ (d - 1) (fun _ _ _ e => by cases e) hok (fun j hj => by
          have h := hh j hj
          by_cases h2 : (V r).2.1 j 0 = 2
          · exact tm_un h2 h
          · obtain ⟨n1, n2⟩ := nm_tm (hV r hr) hn hok hj h2
            by_cases h0 : (V r).2.1 j 0 = 0
            · obtain ⟨d', a, _⟩ := hval j hj h0
              exact (tm_some h0).mpr ⟨d', a⟩
            · have h := (tm_none h2 h0).mp h
              rw [← i1 _ n1 (by rw [n2, ← hlr]; exact (lay_lt hV hS hr hj h2).2 h0)] at h
              exact (tm_none h2 h0).mpr h) (Nat.zero_le _) (fun j _ hj h0 => hval j hj h0)
        rw [hnm] at a
        exact ⟨d', a, by omega⟩
  refine ⟨fun n hn9 hL => ?_, i2, i3, i4⟩
  rcases Nat.lt_or_ge (L (n / 100)) l with z | z
  · exact i1 n hn9 z
  · cases e : s0 n with
    | none =>
      cases e2 : t n with
      | none => rfl
      | some d => obtain ⟨d0, a, _⟩ := i2 n d hn9 e2; rw [e] at a; cases a
    | some d =>
      obtain ⟨d', a, b⟩ := key d n hn9 (by omega) e
      obtain ⟨d0, a2, b2⟩ := i2 n d' hn9 a
      rw [e] at a2
      injection a2 with a2
      rw [a, show d' = d by omega]
theorem wkI_0 {S : Nat → Bool} {V : Nat → RV} {rc nt : Nat} {U : Nat → Bool} {L : Nat → Nat} {s0 : Nat → Option Nat} (hs : IsSt S V rc U nt s0) : wkI S L s0 0 (fun n => if S n = true then some 0 else none) := by
  refine ⟨fun n _ h => absurd h (by omega), fun n d hn9 h => ?_, fun n _ h => if_pos h, fun n d _ h => ?_⟩
  · have h : (if S n = true then some 0 else none) = some d := h
    by_cases z : S n = true
    · rw [if_pos z] at h; cases h; exact ⟨0, hs.1 n hn9 z, Nat.le_refl _⟩
    · rw [if_neg z] at h; cases h
  · have h : (if S n = true then some 0 else none) = some d := h
    by_cases z : S n = true
    · rw [if_pos z] at h; cases h; exact Nat.zero_le _
    · rw [if_neg z] at h; cases h
theorem wkI_end {S : Nat → Bool} {L : Nat → Nat} {s0 t : Nat → Option Nat} {l : Nat} (h : wkI S L s0 l t) (hL : ∀ k, L k ≤ 9) (hl : 10 ≤ l) {f : Nat → Int32} (hf : stO f t) : stO f s0 := fun n hn => by
  have e := h.1 n hn (by have := hL (n / 100); omega)
  rw [← e]; exact hf n hn
