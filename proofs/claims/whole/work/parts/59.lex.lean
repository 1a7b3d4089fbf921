/-! TOKENS of a text, as relations; WORDS as rows of letters -/
def xw : List Nat → Nat
  | [] => 0
  | c :: l => (c + 96) + 256 * xw l
def mwr : List Nat → Nat
  | [] => 0
  | c :: l => 32 * mwr l + c
def mw (l : List Nat) : Nat := mwr l.reverse
def okW (l : List Nat) : Prop := ∀ c ∈ l, 1 ≤ c ∧ c ≤ 26
theorem xw_app (l : List Nat) (c : Nat) : xw (l ++ [c]) = xw l + 256 ^ l.length * (c + 96) := by
  induction l with
  | nil => simp [xw]
  | cons a l ih =>
    simp only [List.cons_append, xw, List.length_cons, Nat.pow_succ]
    rw [ih, Nat.mul_add, Nat.mul_comm (256 ^ l.length) 256, Nat.mul_assoc]; omega
theorem mw_app (l : List Nat) (c : Nat) : mw (l ++ [c]) = 32 * mw l + c := by
  unfold mw
  rw [List.reverse_append]
  rfl
theorem xw_lt {l : List Nat} (h : okW l) : xw l < 256 ^ l.length := by
  induction l with
  | nil => simp [xw]
  | cons a l ih =>
    have h1 := ih (fun c hc => h c (List.mem_cons_of_mem _ hc))
    have h2 := h a List.mem_cons_self
    simp only [xw, List.length_cons, Nat.pow_succ]
    omega
theorem xw_lt2 {l : List Nat} (h : okW l) (hl : 0 < l.length) : 2 * xw l < 256 ^ l.length := by
  induction l with
  | nil => cases hl
  | cons a l ih =>
    have h2 := h a List.mem_cons_self
    simp only [xw, List.length_cons, Nat.pow_succ]
    cases l with
    | nil => simp [xw]; omega
    | cons b l =>
      have h1 := ih (fun c hc => h c (List.mem_cons_of_mem _ hc)) (by simp)
      omega
theorem mwr_lt {l : List Nat} (h : okW l) : mwr l < 32 ^ l.length := by
  induction l with
  | nil => simp [mwr]
  | cons a l ih =>
    have h1 := ih (fun c hc => h c (List.mem_cons_of_mem _ hc))
    have h2 := h a List.mem_cons_self
    simp only [mwr, List.length_cons, Nat.pow_succ]
    omega
theorem okW_rev {l : List Nat} (h : okW l) : okW l.reverse := fun c hc => h c (List.mem_reverse.mp hc)
theorem mw_lt {l : List Nat} (h : okW l) : mw l < 32 ^ l.length := by
  have := mwr_lt (okW_rev h)
  rw [List.length_reverse] at this
  exact this
theorem xw_inj : ∀ {l l' : List Nat}, okW l → okW l' → xw l = xw l' → l = l'
  | [], [], _, _, _ => rfl
  | [], c :: l', _, h, e => by have := h c List.mem_cons_self; simp only [xw] at e; omega
  | c :: l, [], h, _, e => by have := h c List.mem_cons_self; simp only [xw] at e; omega
  | c :: l, c' :: l', h, h', e => by
    have a := h c List.mem_cons_self
    have b := h' c' List.mem_cons_self
    simp only [xw] at e
    have e1 : c = c' := by omega
    have e2 : xw l = xw l' := by omega
    rw [e1, xw_inj (fun z hz => h z (List.mem_cons_of_mem _ hz)) (fun z hz => h' z (List.mem_cons_of_mem _ hz)) e2]
theorem mwr_inj : ∀ {l l' : List Nat}, okW l → okW l' → mwr l = mwr l' → l = l'
  | [], [], _, _, _ => rfl
  | [], c :: l', _, h, e => by have := h c List.mem_cons_self; simp only [mwr] at e; omega
  | c :: l, [], h, _, e => by have := h c List.mem_cons_self; simp only [mwr] at e; omega
  | c :: l, c' :: l', h, h', e => by
    have a := h c List.mem_cons_self
    have b := h' c' List.mem_cons_self
    simp only [mwr] at e
    have e1 : c = c' := by omega
    have e2 : mwr l = mwr l' := by omega
    rw [e1, mwr_inj (fun z hz => h z (List.mem_cons_of_mem _ hz)) (fun z hz => h' z (List.mem_cons_of_mem _ hz)) e2]
theorem mw_inj {l l' : List Nat} (h : okW l) (h' : okW l') (e : mw l = mw l') : l = l' := List.reverse_inj.mp (mwr_inj (okW_rev h) (okW_rev h') e)
theorem p256 : ∀ k, k ≤ 8 → 256 ^ k ≤ 2 ^ 64 := by decide
theorem p32 : ∀ k, k ≤ 8 → 32 ^ k ≤ 2 ^ 40 := by decide
theorem xw_63 {l : List Nat} (h : okW l) (hl : l.length ≤ 8) : xw l < 2 ^ 63 := by
  rcases Nat.eq_zero_or_pos l.length with z | z
  · rw [List.eq_nil_of_length_eq_zero z]; simp [xw]
  · have h1 := xw_lt2 h z
    have h2 := p256 l.length hl
    omega
theorem mw_40 {l : List Nat} (h : okW l) (hl : l.length ≤ 8) : mw l < 2 ^ 40 := Nat.lt_of_lt_of_le (mw_lt h) (p32 _ hl)
/-! bytes -/
def isL (c : Nat) : Prop := 97 ≤ c ∧ c ≤ 122
def isB (c : Nat) : Prop := c = 32 ∨ c = 10
def isS (c : Nat) : Prop := 65 ≤ c ∧ c ≤ 72
def isM (c : Nat) : Prop := c = 40 ∨ c = 41 ∨ c = 44 ∨ c = 46 ∨ c = 58 ∨ c = 35
def wdL (b : Nat → Nat) (st m : Nat) : List Nat := (List.range m).map (fun j => b (st + j) - 96)
theorem wdL_0 (b : Nat → Nat) (st : Nat) : wdL b st 0 = [] := rfl
theorem wdL_s (b : Nat → Nat) (st m : Nat) : wdL b st (m + 1) = wdL b st m ++ [b (st + m) - 96] := by
  unfold wdL
  rw [List.range_succ, List.map_append]; rfl
theorem wdL_len (b : Nat → Nat) (st m : Nat) : (wdL b st m).length = m := by unfold wdL; simp
theorem wdL_ok {b : Nat → Nat} {st m : Nat} (h : ∀ j, j < m → isL (b (st + j))) : okW (wdL b st m) := by
  intro c hc
  unfold wdL at hc
  obtain ⟨j, j1, j2⟩ := List.mem_map.mp hc
  have := h j (List.mem_range.mp j1)
  unfold isL at this
  omega
/-- type, start, WORD -/
abbrev Tk : Type := Nat × Nat × List Nat
def lxA (b : Nat → Nat) (n st : Nat) (t : Tk) (p' : Nat) : Prop :=
  (st = n ∧ t.1 = 0 ∧ p' = n) ∨
  (∃ m, 1 ≤ m ∧ m ≤ 8 ∧ st + m ≤ n ∧ (∀ j, j < m → isL (b (st + j))) ∧ (st + m = n ∨ ¬ isL (b (st + m))) ∧ t.1 = 2 ∧ t.2.2 = wdL b st m ∧ p' = st + m) ∨
  (st + 9 ≤ n ∧ (∀ j, j < 9 → isL (b (st + j))) ∧ t.1 = 1) ∨
  (st < n ∧ isS (b st) ∧ t.1 = 3 ∧ t.2.2 = [b st] ∧ p' = st + 1) ∨
  (st < n ∧ isM (b st) ∧ t.1 = b st ∧ p' = st + 1) ∨
  (st < n ∧ ¬ isL (b st) ∧ ¬ isB (b st) ∧ ¬ isS (b st) ∧ ¬ isM (b st) ∧ t.1 = 1)
def lexR (b : Nat → Nat) (n p : Nat) (t : Tk) (p' : Nat) : Prop := p ≤ t.2.1 ∧ t.2.1 ≤ n ∧ (∀ j, p ≤ j → j < t.2.1 → isB (b j)) ∧ lxA b n t.2.1 t p'
theorem lxA_nb {b : Nat → Nat} {n st p' : Nat} {t : Tk} (h : lxA b n st t p') : st = n ∨ (st < n ∧ ¬ isB (b st)) := by
  unfold lxA isL isS isM isB at h
  rcases h with h | ⟨m, h1, h2, h3, h4, -⟩ | ⟨h1, h2, -⟩ | ⟨h1, h2, -⟩ | ⟨h1, h2, -⟩ | ⟨h1, h2, h3, -⟩
  · exact Or.inl h.1
  · right; have := h4 0 (by omega); unfold isB; simp only [Nat.add_zero] at this; omega
  · right; have := h2 0 (by omega); unfold isB; simp only [Nat.add_zero] at this; omega
  · right; unfold isB; omega
  · right; unfold isB; omega
  · right; exact ⟨h1, h3⟩
theorem lexR_one {b : Nat → Nat} {n p p1 p2 : Nat} {t1 t2 : Tk} (h1 : lexR b n p t1 p1) (h2 : lexR b n p t2 p2) : t1.1 = t2.1 ∧ t1.2.1 = t2.2.1 ∧ ((t1.1 = 2 ∨ t1.1 = 3) → t1.2.2 = t2.2.2) ∧ (t1.1 ≠ 1 → p1 = p2) := by
  obtain ⟨a1, a2, a3, a4⟩ := h1
  obtain ⟨b1, b2, b3, b4⟩ := h2
  have est : t1.2.1 = t2.2.1 := by
    have x := lxA_nb a4
    have y := lxA_nb b4
    rcases Nat.lt_trichotomy t1.2.1 t2.2.1 with z | z | z
    · have := b3 _ a1 z
      rcases x with x | ⟨x, x2⟩
      · omega
      · exact absurd this x2
    · exact z
    · have := a3 _ b1 z
      rcases y with y | ⟨y, y2⟩
      · omega
      · exact absurd this y2
  rw [← est] at b4
  generalize t1.2.1 = st at a4 b4 est ⊢
  unfold lxA at a4 b4
  have e0 : st + 0 = st := rfl
  rcases a4 with a | ⟨m, m1, m2, m3, m4, m5, m6, m7, m8⟩ | ⟨a, c, d⟩ | ⟨a, c, d, e, f⟩ | ⟨a, c, d, e⟩ | ⟨a, c, d, e, f, g⟩ <;> rcases b4 with a' | ⟨m', m1', m2', m3', m4', m5', m6', m7', m8'⟩ | ⟨a', c', d'⟩ | ⟨a', c', d', e', f'⟩ | ⟨a', c', d', e'⟩ | ⟨a', c', d', e', f', g'⟩
  · exact ⟨by omega, est, fun z => by omega, fun _ => by omega⟩
  · exfalso; omega
  · exfalso; omega
  · exfalso; omega
  · exfalso; omega
  · exfalso; omega
  · exfalso; omega
  · have e : m = m' := by
      rcases Nat.lt_trichotomy m m' with z | z | z
      · rcases m5 with q | q
        · omega
        · exact absurd (m4' m z) q
      · exact z
      · rcases m5' with q | q
        · omega
        · exact absurd (m4 m' z) q
    subst e
    exact ⟨by omega, est, fun _ => by rw [m7, m7'], fun _ => by omega⟩
  · exfalso
    rcases m5 with q | q
    · omega
    · exact absurd (c' m (by omega)) q
  · exfalso; have := m4 0 (by omega); rw [e0] at this; unfold isL isS at *; omega
  · exfalso; have := m4 0 (by omega); rw [e0] at this; unfold isL isM at *; omega
  · exfalso; have := m4 0 (by omega); rw [e0] at this; exact c' this
  · exfalso; omega
  · exfalso
    rcases m5' with q | q
    · omega
    · exact absurd (c m' (by omega)) q
  · exact ⟨by omega, est, fun z => by omega, fun z => absurd d z⟩
  · exfalso; have := c 0 (by omega); rw [e0] at this; unfold isL isS at *; omega
  · exfalso; have := c 0 (by omega); rw [e0] at this; unfold isL isM at *; omega
  · exfalso; have := c 0 (by omega); rw [e0] at this; exact c' this
  · exfalso; omega
  · exfalso; have := m4' 0 (by omega); rw [e0] at this; unfold isL isS at *; omega
  · exfalso; have := c' 0 (by omega); rw [e0] at this; unfold isL isS at *; omega
  · exact ⟨by omega, est, fun _ => by rw [e, e'], fun _ => by omega⟩
  · exfalso; unfold isS isM at *; omega
  · exact absurd c e'
  · exfalso; omega
  · exfalso; have := m4' 0 (by omega); rw [e0] at this; unfold isL isM at *; omega
  · exfalso; have := c' 0 (by omega); rw [e0] at this; unfold isL isM at *; omega
  · exfalso; unfold isS isM at *; omega
  · refine ⟨by omega, est, fun z => ?_, fun _ => by omega⟩
    exfalso; unfold isM at c; omega
  · exact absurd c f'
  · exfalso; omega
  · exfalso; have := m4' 0 (by omega); rw [e0] at this; exact c this
  · exfalso; have := c' 0 (by omega); rw [e0] at this; exact c this
  · exact absurd c' e
  · exact absurd c' f
  · exact ⟨by omega, est, fun z => by omega, fun z => absurd g z⟩
/-- a whole row of TOKENS -/
def tkC (b : Nat → Nat) (n ts : Nat) (tk : Nat → Tk) (pos : Nat → Nat) : Prop := pos 0 = 0 ∧ (∀ i, i < ts → lexR b n (pos i) (tk i) (pos (i + 1))) ∧ 1 ≤ ts ∧ (tk (ts - 1)).1 ≤ 1 ∧ ∀ i, i + 1 < ts → 2 ≤ (tk i).1
/-- the rows that hold them -/
def tkX (ts : Nat) (tk : Nat → Tk) (ty st : Nat → Int32) (wd : Nat → Int64) : Prop := ∀ i, i < ts → ty i = nI (tk i).1 ∧ st i = nI (tk i).2.1 ∧ ((tk i).1 = 2 → wd i = lN (xw (tk i).2.2)) ∧ ((tk i).1 = 3 → ∃ c, c < 256 ∧ (tk i).2.2 = [c] ∧ wd i = lN c)
