/-! small facts of numbers and answers -/
def bi (b : Bool) : Int32 := if b then 1 else 0
theorem bi_t {b : Bool} (h : ¬ bi b = 0) : b = true := by cases b; exact absurd rfl h; rfl
theorem bi_f {b : Bool} (h : bi b = 0) : b = false := by cases b; rfl; exact absurd h (by decide)
theorem bi_01 (b : Bool) : bi b = 0 ∨ bi b = 1 := by cases b; exact Or.inl rfl; exact Or.inr rfl
theorem bi_nar (b : Bool) : narrow .boolean (.int (bi b)) = .int (bi b) := by cases b <;> rfl
theorem bi_fit (b : Bool) : fits .boolean (.int (bi b)) = true := by cases b <;> rfl
theorem bi_inj {a b : Bool} : bi a = bi b ↔ a = b := by cases a <;> cases b <;> decide
/-- a number within 0 .. n - 1 -/
def inR (k : Int32) (n : Nat) : Bool := decide (¬ k < 0) && decide (¬ nI n ≤ k)
theorem inR_of {k : Int32} {n : Nat} (h : inR k n = true) (hn : n < 2 ^ 31) : ∃ j : Nat, j < n ∧ k = nI j := by
  simp only [inR, Bool.and_eq_true, decide_eq_true_eq] at h
  rcases pk_ix k hn with q | q | q
  · exact absurd q h.1
  · exact absurd q h.2
  · exact q
theorem inR_nI {j n : Nat} (hj : j < 2 ^ 31) (hn : n < 2 ^ 31) : inR (nI j) n = decide (j < n) := by
  simp only [inR, nI_pos hj, nI_leI hn hj]
  simp
theorem inR_f {k : Int32} {n : Nat} (h : inR k n = false) (hn : n < 2 ^ 31) : ∀ j, j < n → k ≠ nI j := by
  rintro j hj rfl
  rw [inR_nI (by omega) hn] at h
  simp at h
  omega
theorem nI_m1 {n : Nat} (h : n < 2 ^ 31) : ¬ nI n = -1 := by
  intro q
  have h1 := nI_toInt h
  rw [q] at h1
  have : ((-1 : Int32)).toInt = -1 := by decide
  omega
section XN
variable {G : xG} {M : xM} {R : Room} {F : List Frame → Array Value → State → State → Prop} {uc us pc : Nat} {ls : List (Nat × Value)} {st : List Value} {h : xHp}
theorem x_topl {x y : Int64} (e : x = y) (k : Wx G M R F uc us pc ls (.long y :: st) h) : Wx G M R F uc us pc ls (.long x :: st) h := e ▸ k
theorem x_ialdN {a n j : Nat} {f : Nat → Int32} {i : Int32} (hc : h.1 a = some (.inl (0, n, .inl f))) (hi : i = nI j) (hj : j < n) (hn : n < 2 ^ 31) (hd : decode M.2.1 pc = .ok (.iaload, 1)) (kk : Wx G M R F uc us (pc + 1) ls (.int (f j) :: st) h) : Wx G M R F uc us pc ls (.int i :: .ref a :: st) h := by
  subst hi
  refine x_iald hc (vp_in_nI hj hn) hd ?_
  rw [nI_clamp (Nat.lt_trans hj hn)]; exact kk
theorem x_baldN {a n j : Nat} {f : Nat → Int32} {i : Int32} (hc : h.1 a = some (.inl (2, n, .inl f))) (hi : i = nI j) (hj : j < n) (hn : n < 2 ^ 31) (hd : decode M.2.1 pc = .ok (.baload, 1)) (kk : Wx G M R F uc us (pc + 1) ls (.int (f j) :: st) h) : Wx G M R F uc us pc ls (.int i :: .ref a :: st) h := by
  subst hi
  refine x_bald hc (vp_in_nI hj hn) hd ?_
  rw [nI_clamp (Nat.lt_trans hj hn)]; exact kk
theorem x_zaldN {a n j : Nat} {f : Nat → Int32} {i : Int32} (hc : h.1 a = some (.inl (3, n, .inl f))) (hi : i = nI j) (hj : j < n) (hn : n < 2 ^ 31) (hd : decode M.2.1 pc = .ok (.baload, 1)) (kk : Wx G M R F uc us (pc + 1) ls (.int (f j) :: st) h) : Wx G M R F uc us pc ls (.int i :: .ref a :: st) h := by
  subst hi
  refine x_zald hc (vp_in_nI hj hn) hd ?_
  rw [nI_clamp (Nat.lt_trans hj hn)]; exact kk
theorem x_laldN {a n j : Nat} {f : Nat → Int64} {i : Int32} (hc : h.1 a = some (.inl (1, n, .inr (.inl f)))) (hi : i = nI j) (hj : j < n) (hn : n < 2 ^ 31) (hd : decode M.2.1 pc = .ok (.laload, 1)) (kk : Wx G M R F uc us (pc + 1) ls (.long (f j) :: st) h) : Wx G M R F uc us pc ls (.int i :: .ref a :: st) h := by
  subst hi
  refine x_lald hc (vp_in_nI hj hn) hd ?_
  rw [nI_clamp (Nat.lt_trans hj hn)]; exact kk
theorem x_aaldN {a t n b j : Nat} {C : String} {f : Nat → Option Nat} {i : Int32} (hc : h.1 a = some (.inl (t, n, .inr (.inr f)))) (ht : (xTys G)[t]? = some (xA G t, .object C)) (hi : i = nI j) (hj : j < n) (hn : n < 2 ^ 31) (hb : f j = some b) (hd : decode M.2.1 pc = .ok (.aaload, 1)) (kk : Wx G M R F uc us (pc + 1) ls (.ref b :: st) h) : Wx G M R F uc us pc ls (.int i :: .ref a :: st) h := by
  subst hi
  exact x_aald hc ht (vp_in_nI hj hn) (by rw [nI_clamp (Nat.lt_trans hj hn)]; exact hb) hd kk
theorem x_iastN {a n j : Nat} {f : Nat → Int32} {i x : Int32} (hc : h.1 a = some (.inl (0, n, .inl f))) (hi : i = nI j) (hj : j < n) (hn : n < 2 ^ 31) (hd : decode M.2.1 pc = .ok (.iastore, 1)) (kk : Wx G M R F uc us (pc + 1) ls st (xup h a (.inl (0, n, .inl (upd f j x))))) : Wx G M R F uc us pc ls (.int x :: .int i :: .ref a :: st) h := by
  subst hi
  refine x_iast hc (vp_in_nI hj hn) hd ?_
  rw [nI_clamp (Nat.lt_trans hj hn)]; exact kk
theorem x_bastN {a n j : Nat} {f : Nat → Int32} {i x : Int32} (hc : h.1 a = some (.inl (2, n, .inl f))) (hi : i = nI j) (hj : j < n) (hn : n < 2 ^ 31) (hd : decode M.2.1 pc = .ok (.bastore, 1)) (kk : Wx G M R F uc us (pc + 1) ls st (xup h a (.inl (2, n, .inl (upd f j x.toInt8.toInt32))))) : Wx G M R F uc us pc ls (.int x :: .int i :: .ref a :: st) h := by
  subst hi
  refine x_bast hc (vp_in_nI hj hn) hd ?_
  rw [nI_clamp (Nat.lt_trans hj hn)]; exact kk
theorem x_zastN {a n j : Nat} {f : Nat → Int32} {i x : Int32} (hc : h.1 a = some (.inl (3, n, .inl f))) (hi : i = nI j) (hj : j < n) (hn : n < 2 ^ 31) (h01 : x = 0 ∨ x = 1) (hd : decode M.2.1 pc = .ok (.bastore, 1)) (kk : Wx G M R F uc us (pc + 1) ls st (xup h a (.inl (3, n, .inl (upd f j x))))) : Wx G M R F uc us pc ls (.int x :: .int i :: .ref a :: st) h := by
  subst hi
  refine x_zast hc (vp_in_nI hj hn) h01 hd ?_
  rw [nI_clamp (Nat.lt_trans hj hn)]; exact kk
theorem x_lastN {a n j : Nat} {f : Nat → Int64} {i : Int32} {x : Int64} (hc : h.1 a = some (.inl (1, n, .inr (.inl f)))) (hi : i = nI j) (hj : j < n) (hn : n < 2 ^ 31) (hd : decode M.2.1 pc = .ok (.lastore, 1)) (kk : Wx G M R F uc us (pc + 1) ls st (xup h a (.inl (1, n, .inr (.inl (vp_updL f j x)))))) : Wx G M R F uc us pc ls (.long x :: .int i :: .ref a :: st) h := by
  subst hi
  refine x_last hc (vp_in_nI hj hn) hd ?_
  rw [nI_clamp (Nat.lt_trans hj hn)]; exact kk
theorem x_aastN {a t n b ci j : Nat} {r : vw_C} {vs : List Value} {f : Nat → Option Nat} {i : Int32} (hc : h.1 a = some (.inl (t, n, .inr (.inr f)))) (ht : (xTys G)[t]? = some (xA G t, .object r.1)) (hv : h.1 b = some (.inr (ci, vs))) (hcl : xCl[ci]? = some r) (hi : i = nI j) (hj : j < n) (hn : n < 2 ^ 31) (hd : decode M.2.1 pc = .ok (.aastore, 1)) (kk : Wx G M R F uc us (pc + 1) ls st (xup h a (.inl (t, n, .inr (.inr (va_up f j (some b))))))) : Wx G M R F uc us pc ls (.ref b :: .int i :: .ref a :: st) h := by
  subst hi
  refine x_aast hc ht hv hcl (vp_in_nI hj hn) hd ?_
  rw [nI_clamp (Nat.lt_trans hj hn)]; exact kk
end XN
/-- an answer and a heap -/
abbrev xAns (v : Value) (h : xHp) : Option Value ⊕ Nat → xHp → Prop := fun o h' => o = .inl (some v) ∧ h' = h
abbrev xVoid (h : xHp) : Option Value ⊕ Nat → xHp → Prop := fun o h' => o = .inl none ∧ h' = h
theorem xne_of {h : xHp} {a b : Nat} {c c' : xCel} (h1 : h.1 a = some c) (h2 : h.1 b = some c') (hn : c ≠ c') : a ≠ b := by
  rintro rfl
  exact hn (Option.some.inj (h1.symm.trans h2))
theorem xne_oa {h : xHp} {a b ci : Nat} {fs : List Value} {r : Nat × Nat × ((Nat → Int32) ⊕ (Nat → Int64) ⊕ (Nat → Option Nat))} (h1 : h.1 a = some (.inr (ci, fs))) (h2 : h.1 b = some (.inl r)) : a ≠ b := xne_of h1 h2 (fun q => by cases q)
theorem xup_up (h : xHp) (a : Nat) (c c' : xCel) : xup (xup h a c) a c' = xup h a c' := by
  unfold xup
  congr 1
  funext j
  simp only [va_up]
  split <;> rfl
theorem xup_sw {h : xHp} {a b : Nat} (hn : a ≠ b) (c c' : xCel) : xup (xup h a c) b c' = xup (xup h b c') a c := by
  unfold xup
  congr 1
  funext j
  simp only [va_up]
  by_cases h1 : j = a
  · subst h1; simp [hn]
  · simp [h1]
theorem xup_id {h : xHp} {a : Nat} {c : xCel} (hc : h.1 a = some c) : xup h a c = h := by
  obtain ⟨f, n⟩ := h
  unfold xup
  congr 1
  funext j
  simp only [va_up]
  split
  next e => subst e; exact hc.symm
  next => rfl
