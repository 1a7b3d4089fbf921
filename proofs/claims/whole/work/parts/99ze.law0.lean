/-! a text read by either side: PLACES above the KINDS that are there don't matter -/
def simB (B : Nat) (q q' : PQ) : Prop := q.1 = q'.1 ∧ q.2.1 = q'.2.1 ∧ q.2.2.1 = q'.2.2.1 ∧ q.2.2.2.1 = q'.2.2.2.1 ∧ ∀ j, j < B → q.2.2.2.2 j = q'.2.2.2.2 j
abbrev simQ (q q' : PQ) : Prop := simB q.2.2.1 q q'
theorem simB.ex {B : Nat} {q q' : PQ} (h : simB B q q') : ∃ a b c d p p', q = (a, b, c, d, p) ∧ q' = (a, b, c, d, p') ∧ ∀ j, j < B → p j = p' j := by
  obtain ⟨a, b, c, d, p⟩ := q
  obtain ⟨a', b', c', d', p'⟩ := q'
  obtain ⟨h1, h2, h3, h4, h5⟩ := h
  have h1 : a = a' := h1
  have h2 : b = b' := h2
  have h3 : c = c' := h3
  have h4 : d = d' := h4
  subst h1; subst h2; subst h3; subst h4
  exact ⟨a, b, c, d, p, p', rfl, rfl, h5⟩
def sR {ε α : Type} (B : Nat) (r r' : ε ⊕ (PQ × α)) : Prop := (∃ e, r = .inl e ∧ r' = .inl e) ∨ ∃ q q' a, r = .inr (q, a) ∧ r' = .inr (q', a) ∧ simB B q q' ∧ q.2.2.1 = B
def sR0 {ε α : Type} (B n : Nat) (r r' : ε ⊕ (PQ × α)) : Prop := (∃ e, r = .inl e ∧ r' = .inl e) ∨ ∃ q q' a, r = .inr (q, a) ∧ r' = .inr (q', a) ∧ simB B q q' ∧ q.2.2.1 = n
theorem sim_arg {B : Nat} {tk : Nat → Tk} {q q' : PQ} {v : RV} {k i : Nat} {b : Bool} (h : simB B q q') : sR0 B q.2.2.1 (pArg tk q v k i b) (pArg tk q' v k i b) := by
  obtain ⟨x, y, c, d, p, p', rfl, rfl, h5⟩ := h.ex
  unfold pArg
  repeat' split
  all_goals first | exact Or.inl ⟨_, rfl, rfl⟩ | exact Or.inr ⟨_, _, _, rfl, rfl, ⟨rfl, rfl, rfl, rfl, h5⟩, rfl⟩ | (exfalso; simp_all; done)
def nwO (new : Bool) (B kd n : Nat) : Prop := (new = true ∧ kd = B ∧ n = B + 1) ∨ (new = false ∧ kd < B ∧ n = B)
theorem sim_fin {B n : Nat} {q q' : PQ} {v : RV} {i kd pl k : Nat} {new : Bool} (h : simB B q q') (hn : q.2.2.1 = n) (ho : nwO new B kd n) : sR n (pFin q v i kd pl new k) (pFin q' v i kd pl new k) := by
  obtain ⟨x, y, c, d, p, p', rfl, rfl, h5⟩ := h.ex
  have hn : c = n := hn
  subst hn
  unfold pFin pHas
  rcases ho with ⟨rfl, rfl, e⟩ | ⟨rfl, hk, e⟩
  · have e1 : (pcU (x, y, c, d, p) kd (plC (tmI v i))).2.2.2.2 kd = plC (tmI v i) := apF_at _ _ _
    have e2 : (pcU (x, y, c, d, p') kd (plC (tmI v i))).2.2.2.2 kd = plC (tmI v i) := apF_at _ _ _
    simp only [if_true, if_pos e1, if_pos e2]
    refine Or.inr ⟨_, _, _, rfl, rfl, ⟨rfl, rfl, rfl, rfl, fun j hj => ?_⟩, rfl⟩
    show apF p kd _ j = apF p' kd _ j
    by_cases z : j = kd
    · rw [z, apF_at, apF_at]
    · rw [apF_ne z, apF_ne z]; exact h5 j (by omega)
  · subst e
    have e1 := h5 kd hk
    have hf : ¬ (false = true) := by decide
    simp only [if_neg hf, e1]
    split
    next q => split at q <;> first | (cases q; exact Or.inl ⟨_, rfl, by simp_all⟩) | cases q
    next q' q =>
      split at q
      next z => cases q; rw [if_pos z]; exact Or.inr ⟨_, _, _, rfl, rfl, ⟨rfl, rfl, rfl, rfl, h5⟩, rfl⟩
      next z => cases q
theorem sim_at2 {B n : Nat} {tk : Nat → Tk} {q q' : PQ} {v : RV} {i kd pl k : Nat} {new : Bool} (h : simB B q q') (hn : q.2.2.1 = n) (ho : nwO new B kd n) : sR n (pAt2 tk q v k i kd pl new) (pAt2 tk q' v k i kd pl new) := by
  unfold pAt2
  split
  · exact sim_fin h hn ho
  · exact Or.inl ⟨_, rfl, rfl⟩
theorem sim_at1 {B n : Nat} {tk : Nat → Tk} {q q' : PQ} {v : RV} {i kd pl k : Nat} {new : Bool} (h : simB B q q') (hn : q.2.2.1 = n) (ho : nwO new B kd n) : sR n (pAt1 tk q v k i kd pl new) (pAt1 tk q' v k i kd pl new) := by
  unfold pAt1
  by_cases c : (tk k).1 = 40
  · rw [if_pos c, if_pos c]
    rcases sim_arg (tk := tk) (v := v) (k := k + 1) (i := i) (b := true) h with ⟨e, e1, e2⟩ | ⟨r, r', a, e1, e2, h2, e3⟩
    · rw [e1, e2]; exact Or.inl ⟨_, rfl, rfl⟩
    · rw [e1, e2]
      show sR n (if (tk (k + 2)).1 = 44 then _ else _) (if (tk (k + 2)).1 = 44 then _ else _)
      by_cases c2 : (tk (k + 2)).1 = 44
      · rw [if_pos c2, if_pos c2]
        rcases sim_arg (tk := tk) (v := a) (k := k + 3) (i := i) (b := false) h2 with ⟨e, f1, f2⟩ | ⟨s, s', a2, f1, f2, h3, f3⟩
        · rw [f1, f2]; exact Or.inl ⟨_, rfl, rfl⟩
        · rw [f1, f2]; exact sim_at2 h3 (f3.trans (e3.trans hn)) ho
      · rw [if_neg c2, if_neg c2]; exact sim_at2 h2 (e3.trans hn) ho
  · rw [if_neg c, if_neg c]; exact sim_fin h hn ho
def sA {ε α : Type} (r r' : ε ⊕ (PQ × α)) : Prop := ∃ n, sR n r r'
theorem sim_atom {tk : Nat → Tk} {q q' : PQ} {v : RV} {k i : Nat} (h : simQ q q') : sA (pAtom tk q v k i) (pAtom tk q' v k i) := by
  obtain ⟨x, y, c, d, p, p', rfl, rfl, h5⟩ := h.ex
  unfold pAtom
  by_cases c1 : (tk k).1 = 2 ∧ ¬ (tk k).2.2 = NOTW
  · rw [if_pos c1, if_pos c1]
    show sA (if wLook d (tk k).2.2 c < c then _ else _) (if wLook d (tk k).2.2 c < c then _ else _)
    by_cases c2 : wLook d (tk k).2.2 c < c
    · rw [if_pos c2, if_pos c2]; exact ⟨c, sim_at1 h rfl (Or.inr ⟨rfl, c2, rfl⟩)⟩
    · rw [if_neg c2, if_neg c2]
      show sA (if c < 10 then _ else _) (if c < 10 then _ else _)
      by_cases c3 : c < 10
      · rw [if_pos c3, if_pos c3]; exact ⟨c + 1, sim_at1 (B := c) ⟨rfl, rfl, rfl, rfl, h5⟩ rfl (Or.inl ⟨rfl, rfl, rfl⟩)⟩
      · rw [if_neg c3, if_neg c3]; exact ⟨0, Or.inl ⟨_, rfl, rfl⟩⟩
  · rw [if_neg c1, if_neg c1]; exact ⟨0, Or.inl ⟨_, rfl, rfl⟩⟩
theorem sim_unl {tk : Nat → Tk} {q q' : PQ} {v : RV} {k i : Nat} (h : simQ q q') : sA (pUnl tk q v k i) (pUnl tk q' v k i) := by
  unfold pUnl
  rcases sim_arg (tk := tk) (v := clV v i 2) (k := k) (i := i) (b := true) h with ⟨e, e1, e2⟩ | ⟨r, r', a, e1, e2, h2, e3⟩
  · rw [e1, e2]; exact ⟨0, Or.inl ⟨_, rfl, rfl⟩⟩
  · rw [e1, e2]
    show sA (if (tk (k + 1)).1 = 35 then _ else _) (if (tk (k + 1)).1 = 35 then _ else _)
    by_cases c : (tk (k + 1)).1 = 35
    · rw [if_pos c, if_pos c]
      unfold pUn2
      rcases sim_arg (tk := tk) (v := a) (k := k + 2) (i := i) (b := false) h2 with ⟨e, f1, f2⟩ | ⟨s, s', a2, f1, f2, h3, f3⟩
      · rw [f1, f2]; exact ⟨0, Or.inl ⟨_, rfl, rfl⟩⟩
      · rw [f1, f2]; exact ⟨q.2.2.1, Or.inr ⟨_, _, _, rfl, rfl, h3, f3.trans e3⟩⟩
    · rw [if_neg c, if_neg c]; exact ⟨0, Or.inl ⟨_, rfl, rfl⟩⟩
theorem sim_term {tk : Nat → Tk} {q q' : PQ} {v : RV} {k i : Nat} (h : simQ q q') : sA (pTerm tk q v k i) (pTerm tk q' v k i) := by
  unfold pTerm
  split
  · exact sim_unl h
  · split
    · exact sim_atom h
    · exact sim_atom h
def sF (r r' : FR) : Prop := (∃ e, r = .inl e ∧ r' = .inl e) ∨ ∃ o q q' a, r = .inr (o, q, a) ∧ r' = .inr (o, q', a) ∧ simQ q q'
theorem sA.ex {ε α : Type} {r r' : ε ⊕ (PQ × α)} (h : sA r r') : (∃ e, r = .inl e ∧ r' = .inl e) ∨ ∃ q q' a, r = .inr (q, a) ∧ r' = .inr (q', a) ∧ simQ q q' := by
  obtain ⟨n, h | ⟨q, q', a, e1, e2, h, e⟩⟩ := h
  · exact Or.inl h
  · exact Or.inr ⟨q, q', a, e1, e2, by unfold simQ; rw [e]; exact h⟩
theorem sim_endR {q q' : PQ} {v : RV} {k : Nat} (h : simQ q q') : sF (pEndR q v k) (pEndR q' v k) := by
  unfold pEndR
  split
  · exact Or.inr ⟨_, _, _, _, rfl, rfl, h⟩
  · exact Or.inl ⟨_, rfl, rfl⟩
theorem sim_endF {q q' : PQ} {v : RV} {k : Nat} (h : simQ q q') : sF (pEndF q v k) (pEndF q' v k) := by
  unfold pEndF
  split
  · split
    · exact Or.inr ⟨_, _, _, _, rfl, rfl, h⟩
    · exact Or.inl ⟨_, rfl, rfl⟩
  · exact Or.inl ⟨_, rfl, rfl⟩
theorem sim_terms {tk : Nat → Tk} : ∀ (n : Nat) {q q' : PQ} {v : RV} {k i : Nat}, simQ q q' → sF (pTerms tk n q v k i) (pTerms tk n q' v k i)
  | 0, _, _, _, _, _, _ => Or.inl ⟨_, rfl, rfl⟩
  | n + 1, q, q', v, k, i, h => by
    unfold pTerms
    rcases (sim_term (tk := tk) (v := szV v (i + 1)) (k := k + 1) (i := i + 1) h).ex with ⟨e, e1, e2⟩ | ⟨r, r', ⟨v2, k2⟩, e1, e2, h2⟩
    · rw [e1, e2]; exact Or.inl ⟨_, rfl, rfl⟩
    · rw [e1, e2]
      show sF (if (tk k2).1 = 46 then _ else _) (if (tk k2).1 = 46 then _ else _)
      split
      · exact sim_endR h2
      · split
        · exact sim_terms n h2
        · exact Or.inl ⟨_, rfl, rfl⟩
theorem sim_clause {tk : Nat → Tk} {rc : Nat} {q q' : PQ} {v0 : RV} {k : Nat} (h : simQ q q') : sF (pClause tk rc q v0 k) (pClause tk rc q' v0 k) := by
  unfold pClause
  rcases (sim_atom (tk := tk) (v := clV (rv0 v0) 0 0) (k := k) (i := 0) h).ex with ⟨e, e1, e2⟩ | ⟨r, r', ⟨v2, k2⟩, e1, e2, h2⟩
  · rw [e1, e2]; exact Or.inl ⟨_, rfl, rfl⟩
  · rw [e1, e2]
    show sF (if (tk k2).1 = 46 then _ else _) (if (tk k2).1 = 46 then _ else _)
    split
    · exact sim_endF h2
    · split
      · split
        · exact sim_terms 4 h2
        · exact Or.inl ⟨_, rfl, rfl⟩
      · exact Or.inl ⟨_, rfl, rfl⟩
def simS (s s' : TS) : Prop := s.1 = s'.1 ∧ s.2.1 = s'.2.1 ∧ s.2.2.1 = s'.2.2.1 ∧ s.2.2.2.1 = s'.2.2.2.1 ∧ simQ s.2.2.2.2.1 s'.2.2.2.2.1 ∧ s.2.2.2.2.2 = s'.2.2.2.2.2
theorem sim_text {tk : Nat → Tk} : ∀ (m : Nat) {s s' : TS}, simS s s' → (∃ e, pText tk m s = .inl e ∧ pText tk m s' = .inl e) ∨ ∃ r r', pText tk m s = .inr r ∧ pText tk m s' = .inr r' ∧ simS r r'
  | 0, s, s', h => Or.inr ⟨_, _, rfl, rfl, h⟩
  | m + 1, s, s', h => by
    obtain ⟨a, V, n, fs, q, k, c⟩ := s
    obtain ⟨a', V', n', fs', q', k', c'⟩ := s'
    obtain ⟨h1, h2, h3, h4, h5, h6⟩ := h
    have h1 : a = a' := h1
    have h2 : V = V' := h2
    have h3 : n = n' := h3
    have h4 : fs = fs' := h4
    have h6 : (k, c) = (k', c') := h6
    cases h6
    subst h1; subst h2; subst h3; subst h4
    unfold pText
    rcases sim_clause (tk := tk) (rc := a) (v0 := V a) (k := k) (show simQ q q' from h5) with ⟨e, e1, e2⟩ | ⟨o, r, r', ⟨v2, k2⟩, e1, e2, h2⟩
    · exact Or.inl ⟨e, by dsimp only; rw [e1], by dsimp only; rw [e2]⟩
    · have hs : simS (tsN (a, V, n, fs, q, k, c) (o, r, v2, k2)) (tsN (a, V, n, fs, q', k, c) (o, r', v2, k2)) := by
        cases o with
        | none => exact ⟨rfl, rfl, rfl, rfl, h2, rfl⟩
        | some x => exact ⟨rfl, rfl, rfl, rfl, h2, rfl⟩
      by_cases z : (tk k2).1 = 0
      · refine Or.inr ⟨_, _, ?_, ?_, hs⟩
        · dsimp only; rw [e1]; dsimp only; rw [if_pos z]
        · dsimp only; rw [e2]; dsimp only; rw [if_pos z]
      · rcases sim_text (tk := tk) m hs with ⟨e, f1, f2⟩ | ⟨t, t', f1, f2, h3⟩
        · refine Or.inl ⟨e, ?_, ?_⟩
          · dsimp only; rw [e1]; dsimp only; rw [if_neg z]; exact f1
          · dsimp only; rw [e2]; dsimp only; rw [if_neg z]; exact f2
        · refine Or.inr ⟨t, t', ?_, ?_, h3⟩
          · dsimp only; rw [e1]; dsimp only; rw [if_neg z]; exact f1
          · dsimp only; rw [e2]; dsimp only; rw [if_neg z]; exact f2
/-- what a text comes to is one thing -/
theorem sim_tell {tk : Nat → Tk} {rc : Nat} {s s' : TS} (h : simS s s') {x x' : (Nat × Int32) ⊕ TS} (h1 : tellP tk rc s x) (h2 : tellP tk rc s' x') : (∃ e, x = .inl e ∧ x' = .inl e) ∨ ∃ r r', x = .inr r ∧ x' = .inr r' ∧ simS r r' := by
  unfold tellP at h1 h2
  rcases sim_text (tk := tk) 201 h with ⟨e, e1, e2⟩ | ⟨r, r', e1, e2, hr⟩
  · rw [e1] at h1; rw [e2] at h2
    exact Or.inl ⟨e, h1, h2⟩
  · rw [e1] at h1; rw [e2] at h2
    have h1 : ((∃ S, Sat r.2.1 r.1 S) ∧ x = .inr r) ∨ ∃ j, j < r.1 ∧ own6 r.2.1 rc j ∧ x = .inl (6, (r.2.1 j).1 4) := h1
    have h2 : ((∃ S, Sat r'.2.1 r'.1 S) ∧ x' = .inr r') ∨ ∃ j, j < r'.1 ∧ own6 r'.2.1 rc j ∧ x' = .inl (6, (r'.2.1 j).1 4) := h2
    rw [← hr.1, ← hr.2.1] at h2
    have key : ∀ {j : Nat}, j < r.1 → own6 r.2.1 rc j → ¬ ∃ S, Sat r.2.1 r.1 S := fun {j} hj ho ⟨S, hS⟩ => ho.2.1 ⟨S, fun k hk => hS k (by omega)⟩
    rcases h1 with ⟨a1, b1⟩ | ⟨j, a1, b1, c1⟩ <;> rcases h2 with ⟨a2, b2⟩ | ⟨j', a2, b2, c2⟩
    · exact Or.inr ⟨r, r', b1, b2, hr⟩
    · exact absurd a1 (key a2 b2)
    · exact absurd a2 (key a1 b1)
    · have : j = j' := by
        rcases Nat.lt_trichotomy j j' with z | z | z
        · exact absurd (b2.2.2 j b1.1 z) b1.2.1
        · exact z
        · exact absurd (b1.2.2 j' b2.1 z) b2.2.1
      subst this
      exact Or.inl ⟨_, c1, c2⟩
