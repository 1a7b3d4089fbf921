/-! rows of ten bits -/
theorem b10_get : ∀ m, m < 1024 → ∀ j, j < 10 → ((nI m >>> (nI j &&& 31)) &&& 1) = bi (m.testBit j) := by decide +kernel
theorem b10_flip : ∀ m, m < 1024 → ∀ j, j < 10 → nI m ^^^ ((1 : Int32) <<< (nI j &&& 31)) = nI (m ^^^ 2 ^ j) := by decide +kernel
theorem b10_shr0 : ∀ m, m < 1024 → ∀ j, j < 10 → ((nI m >>> (nI j &&& 31)) = 0 ↔ ∀ i, i < 10 → j ≤ i → m.testBit i = false) := by decide +kernel
def xBC (x0 : Int32) : Int32 :=
  let x1 := x0 - ((x0.toUInt32 >>> ((1 : Int32).toUInt32 &&& Int32.toUInt32 31)).toInt32 &&& 1431655765)
  let x2 := (x1 &&& 858993459) + ((x1.toUInt32 >>> ((2 : Int32).toUInt32 &&& Int32.toUInt32 31)).toInt32 &&& 858993459)
  let x3 := (x2 + (x2.toUInt32 >>> ((4 : Int32).toUInt32 &&& Int32.toUInt32 31)).toInt32) &&& 252645135
  let x4 := x3 + (x3.toUInt32 >>> ((8 : Int32).toUInt32 &&& Int32.toUInt32 31)).toInt32
  let x5 := x4 + (x4.toUInt32 >>> ((16 : Int32).toUInt32 &&& Int32.toUInt32 31)).toInt32
  x5 &&& 63
theorem b10_count : ∀ m, m < 1024 → xBC (nI m) = nI (fb_ct (fun j => m.testBit j) 10) := by decide +kernel
theorem b10_beyond (m k : Nat) : nI m &&& (nI k ^^^ (-1)) = nI (m &&& (k ^^^ 4294967295)) := by
  rw [show (-1 : Int32) = nI 4294967295 from rfl, fb_xorI, fa_and]
theorem b10_beyond_bit (m k : Nat) {j : Nat} (hj : j < 10) : (m &&& (k ^^^ 4294967295)).testBit j = (m.testBit j && !k.testBit j) := by
  have h : (4294967295 : Nat).testBit j = true := by
    have : ∀ j, j < 10 → (4294967295 : Nat).testBit j = true := by decide +kernel
    exact this j hj
  rw [Nat.testBit_and, Nat.testBit_xor, h]
  cases m.testBit j <;> cases k.testBit j <;> rfl
theorem b10_beyond_lt {m : Nat} (k : Nat) (hm : m < 1024) : m &&& (k ^^^ 4294967295) < 1024 := Nat.lt_of_le_of_lt Nat.and_le_left hm
theorem b10_flip_lt {m j : Nat} (hm : m < 1024) (hj : j < 10) : m ^^^ 2 ^ j < 1024 := by
  have h2 : 2 ^ j < 1024 := by
    have : ∀ j, j < 10 → 2 ^ j < 1024 := by decide
    exact this j hj
  exact Nat.xor_lt_two_pow (n := 10) hm h2
/-- the rows f hold the set S of ATOMS -/
def isRows (f : Nat → Int32) (S : Nat → Bool) : Prop := ∀ r, r < 100 → ∃ m, m < 1024 ∧ f r = nI m ∧ ∀ j, j < 10 → m.testBit j = S (10 * r + j)
def flipS (S : Nat → Bool) (n : Nat) : Nat → Bool := fun k => if k = n then !S k else S k
theorem isRows_get {f : Nat → Int32} {S : Nat → Bool} (h : isRows f S) {n : Nat} (hn : n < 1000) : ((f (n / 10) >>> (nI (n % 10) &&& 31)) &&& 1) = bi (S n) := by
  obtain ⟨m, h1, h2, h3⟩ := h (n / 10) (by omega)
  rw [h2, b10_get m h1 (n % 10) (by omega), h3 (n % 10) (by omega)]
  congr 2
  omega
theorem isRows_flip {f : Nat → Int32} {S : Nat → Bool} (h : isRows f S) {n : Nat} (hn : n < 1000) : isRows (upd f (n / 10) (f (n / 10) ^^^ ((1 : Int32) <<< (nI (n % 10) &&& 31)))) (flipS S n) := by
  intro r hr
  obtain ⟨m, h1, h2, h3⟩ := h r hr
  by_cases e : r = n / 10
  · subst e
    refine ⟨m ^^^ 2 ^ (n % 10), b10_flip_lt h1 (by omega), ?_, fun j hj => ?_⟩
    · rw [upd, if_pos rfl, h2, b10_flip m h1 (n % 10) (by omega)]
    · rw [fb_bit_flip, h3 j hj, flipS]
      by_cases e2 : j = n % 10
      · rw [if_pos (by omega)]
        simp [e2]
      · rw [if_neg (by omega)]
        simp [e2]
  · refine ⟨m, h1, by rw [upd, if_neg e]; exact h2, fun j hj => ?_⟩
    rw [h3 j hj, flipS, if_neg (by omega)]
theorem isRows_ext {f : Nat → Int32} {S S' : Nat → Bool} (h : isRows f S) (e : ∀ n, n < 1000 → S n = S' n) : isRows f S' := by
  intro r hr
  obtain ⟨m, h1, h2, h3⟩ := h r hr
  exact ⟨m, h1, h2, fun j hj => (h3 j hj).trans (e _ (by omega))⟩
theorem isRows_one {f : Nat → Int32} {S S' : Nat → Bool} (h : isRows f S) (h' : isRows f S') : ∀ n, n < 1000 → S n = S' n := by
  intro n hn
  have e := (isRows_get h hn).symm.trans (isRows_get h' hn)
  exact bi_inj.mp e
theorem isRows_cong {f g : Nat → Int32} {S : Nat → Bool} (h : isRows f S) (e : ∀ r, r < 100 → g r = f r) : isRows g S := by
  intro r hr
  obtain ⟨m, h1, h2, h3⟩ := h r hr
  exact ⟨m, h1, (e r hr).trans h2, h3⟩
