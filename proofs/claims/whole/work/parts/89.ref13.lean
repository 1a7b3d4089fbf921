/-! the reference: tell -/
def gT (g0 g : Nat → Int32) : Prop := ∀ j, j < 4 ∨ (6 < j ∧ j < 20) ∨ 30 < j → g j = g0 j
def aT9 (ar0 ar : Nat → Nat → Int32) : Prop := ∀ c, c ≠ 208 ∧ c ≠ 209 ∧ c ≠ 210 ∧ c ≠ 211 ∧ c ≠ 212 ∧ c ≠ 217 ∧ c ≠ 218 → ar c = ar0 c
def rfT (h0 h : xHp) (c : Nat) : Prop := h.2 = h0.2 + 6 * c ∧ ∀ q, q < 205 ∨ (226 ≤ q ∧ q < h0.2) → h.1 q = h0.1 q
theorem rfT.y {h0 h h' : xHp} {c : Nat} (f : rfT h0 h c) (y : yfr h h') : rfT h0 h' c := ⟨y.1.trans f.1, fun q hq => (y.2 q (by omega)).trans (f.2 q hq)⟩
theorem rmV.fr {h h' : xHp} {a : Nat} {v : RV} (r : rmV h a v) (e : ∀ q, a ≤ q → q < a + 6 → h'.1 q = h.1 q) : rmV h' a v := by
  obtain ⟨so, kd, on, tz, lt, ⟨c1, c2, c3, c4, c5, c6⟩, i⟩ := r
  exact ⟨so, kd, on, tz, lt, ⟨(e _ (by omega) (by omega)).trans c1, (e _ (by omega) (by omega)).trans c2, (e _ (by omega) (by omega)).trans c3, (e _ (by omega) (by omega)).trans c4, (e _ (by omega) (by omega)).trans c5, (e _ (by omega) (by omega)).trans c6⟩, i⟩
theorem rmT.y {h h' : xHp} {rf : Nat → Option Nat} {n : Nat} {V : Nat → RV} (r : rmT h rf n V) (y : yfr h h') : rmT h' rf n V := fun k hk => by
  obtain ⟨a, a1, a2, a3, a4⟩ := r k hk
  exact ⟨a, a1, a2, by rw [y.1]; exact a3, a4.fr (fun q _ _ => y.2 q (by omega))⟩
theorem rmT.m {h h' : xHp} {rf : Nat → Option Nat} {n : Nat} {V : Nat → RV} (r : rmT h rf n V) (f : frM h h') : rmT h' rf n V := fun k hk => by
  obtain ⟨a, a1, a2, a3, a4⟩ := r k hk
  exact ⟨a, a1, a2, by rw [f.1.2]; omega, a4.fr (fun q _ _ => f.2 q (by omega))⟩
def MU (n : Nat) (h0 : xHp) (g0 : Nat → Int32) (ar0 : Nat → Nat → Int32) (rc : Nat) (V : Nat → RV) (q : PQ) (h : xHp) : Prop := ∃ (g : Nat → Int32) (w : Int64) (nw : Value) (ar : Nat → Nat → Int32) (tw kw : Nat → Int64) (rf : Nat → Option Nat) (q' : PQ), MH h g w nw ar tw kw rf ∧ gT g0 g ∧ aT9 ar0 ar ∧ qM q' ar tw kw ∧ extQ q q' ∧ rmT h rf rc V ∧ ∃ c, 2 * c ≤ n + 2 ∧ rfT h0 h c
def TB (n : Nat) (h0 : xHp) (g0 : Nat → Int32) (ar0 : Nat → Nat → Int32) (rc : Nat) (V : Nat → RV) (q : PQ) (S : Nat → Bool) (e : Nat) (p : Int32) (h' : xHp) : Prop := ∃ (g : Nat → Int32) (w : Int64) (nw : Value) (ar : Nat → Nat → Int32) (tw kw : Nat → Int64) (rf : Nat → Option Nat) (pc9 : Nat → Nat), MH h' g w nw ar tw kw rf ∧ (∀ j, j = 0 ∨ (6 < j ∧ j < 20) ∨ 30 < j → g j = g0 j) ∧ (g 1 = 4 ∧ g 2 = p ∧ g 3 = nI e ∧ g 4 = nI q.1 ∧ g 5 = nI q.2.2.1 ∧ g 6 = nI rc) ∧ aT9 ar0 ar ∧ qM (q.1, q.2.1, q.2.2.1, q.2.2.2.1, pc9) ar tw kw ∧ (∀ j, j < q.2.2.1 → pc9 j = q.2.2.2.2 j) ∧ (∀ j, j < 1000 → ar 212 j = bi (S j)) ∧ rmT h' rf rc V ∧ ∃ c, 2 * c ≤ n + 2 ∧ rfT h0 h' c
theorem bi01 (b : Bool) : bi b = 0 ∨ bi b = 1 := by cases b; exact Or.inl rfl; exact Or.inr rfl
theorem qM.cut {q q' : PQ} {ar : Nat → Nat → Int32} {tw kw : Nat → Int64} (h : qM q' ar tw kw) (x : extQ q q') : qM (q.1, q.2.1, q.2.2.1, q.2.2.2.1, q'.2.2.2.2) ar tw kw := ⟨fun k hk => by rw [← x.2.1 k hk]; exact h.1 k (Nat.lt_of_lt_of_le hk x.1), fun k hk => by rw [← (x.2.2.2 k hk).1]; exact h.2.1 k (Nat.lt_of_lt_of_le hk x.2.2.1), h.2.2.1, Nat.le_trans x.1 h.2.2.2.1, Nat.le_trans x.2.2.1 h.2.2.2.2⟩
set_option maxRecDepth 100000 in
set_option maxHeartbeats 4000000 in
theorem l_X14_back {G : xG} {R : Room} {F : List Frame → Array Value → State → State → Prop} {uc us : Nat} {h : xHp} {g : Nat → Int32} {w : Int64} {nw : Value} {ar : Nat → Nat → Int32} {tw : Nat → Int64} {kw : Nat → Int64} {rf : Nat → Option Nat} (M : MH h g w nw ar tw kw rf) {S : Nat → Bool} (h13 : ∀ j, j < 1000 → ar 213 j = bi (S j)) {i1 i2 i3 i4 : Int32} (hcont : ∀ f : Nat → Int32, (∀ j, j < 1000 → f j = bi (S j)) → Wx G mX14_tell R F uc us 238 [(0, .ref 205), (1, .int i1), (2, .int i2), (3, .int i3), (4, .int i4), (5, .ref 215), (6, .int (nI 1000))] [] (xup h 212 (.inl (3, 1000, .inl f)))) : ∀ (m j : Nat) (f : Nat → Int32), j ≤ 1000 → 1001 ≤ j + m → (∀ q, q < j → f q = bi (S q)) → Wx G mX14_tell R F uc us 210 [(0, .ref 205), (1, .int i1), (2, .int i2), (3, .int i3), (4, .int i4), (5, .ref 215), (6, .int (nI j))] [] (xup h 212 (.inl (3, 1000, .inl f))) := by
  intro m
  induction m with
  | zero => exact fun j f h1 h2 => absurd h2 (by omega)
  | succ m ih =>
    intro j f hk hk2 hz
    refine x_iload dX14_tell_210 rfl ?_
    refine x_sipush (v := 1000) dX14_tell_212 (by decide) ?_
    refine x_icmp_ge 238 dX14_tell_215 (by decide) (fun c_215 => ?_) (fun c_215 => ?_)
    · rw [show (1000 : Int32) = nI 1000 from rfl, nI_leI (by omega) (by omega)] at c_215
      rw [show j = 1000 by omega]
      exact hcont f (fun q hq => hz q (by omega))
    · rw [show (1000 : Int32) = nI 1000 from rfl, nI_leI (by omega) (by omega)] at c_215
      refine x_aload_n dX14_tell_218 rfl ?_
      refine x_get lf_X14_33 dX14_tell_219 ((xup_ne (by omega)).trans M.o) rfl ?_
      refine x_iload dX14_tell_222 rfl ?_
      refine x_aload_n dX14_tell_224 rfl ?_
      refine x_get lf_X14_37 dX14_tell_225 ((xup_ne (by omega)).trans M.o) rfl ?_
      refine x_iload dX14_tell_228 rfl ?_
      refine x_zaldN (j := j) ((xup_ne (by omega)).trans (M.a 213 3 1000 rfl)) rfl (by omega) (by decide) dX14_tell_230 ?_
      refine x_top (h13 j (by omega)) ?_
      refine x_zastN (j := j) (xup_self _ _ _) rfl (by omega) (by decide) (bi01 _) dX14_tell_231 ?_
      refine x_iinc (v := nI (j + 1)) [(0, .ref 205), (1, .int i1), (2, .int i2), (3, .int i3), (4, .int i4), (5, .ref 215), (6, .int (nI (j + 1)))] dX14_tell_232 rfl (nI_add j 1) (by decide) rfl rfl ?_
      refine x_goto 210 dX14_tell_235 (by decide) ?_
      refine x_heap (xup_up _ _ _ _) ?_
      exact ih (j + 1) _ (by omega) (by omega) (fun q hq => by by_cases e : q = j; (rw [e]; exact upd_at9); rw [upd_nq e]; exact hz q (by omega))
set_option maxRecDepth 100000 in
set_option maxHeartbeats 4000000 in
theorem l_X14_keep {G : xG} {R : Room} {F : List Frame → Array Value → State → State → Prop} {uc us : Nat} {h : xHp} {g : Nat → Int32} {w : Int64} {nw : Value} {ar : Nat → Nat → Int32} {tw : Nat → Int64} {kw : Nat → Int64} {rf : Nat → Option Nat} (M : MH h g w nw ar tw kw rf) {S : Nat → Bool} (h13 : ∀ j, j < 1000 → ar 212 j = bi (S j)) {i1 i2 i3 i4 : Int32} (hcont : ∀ f : Nat → Int32, (∀ j, j < 1000 → f j = bi (S j)) → Wx G mX14_tell R F uc us 90 [(0, .ref 205), (1, .int i1), (2, .int i2), (3, .int i3), (4, .int i4), (5, .int (nI 1000))] [] (xup h 213 (.inl (3, 1000, .inl f)))) : ∀ (m j : Nat) (f : Nat → Int32), j ≤ 1000 → 1001 ≤ j + m → (∀ q, q < j → f q = bi (S q)) → Wx G mX14_tell R F uc us 62 [(0, .ref 205), (1, .int i1), (2, .int i2), (3, .int i3), (4, .int i4), (5, .int (nI j))] [] (xup h 213 (.inl (3, 1000, .inl f))) := by
  intro m
  induction m with
  | zero => exact fun j f h1 h2 => absurd h2 (by omega)
  | succ m ih =>
    intro j f hk hk2 hz
    refine x_iload dX14_tell_62 rfl ?_
    refine x_sipush (v := 1000) dX14_tell_64 (by decide) ?_
    refine x_icmp_ge 90 dX14_tell_67 (by decide) (fun c_67 => ?_) (fun c_67 => ?_)
    · rw [show (1000 : Int32) = nI 1000 from rfl, nI_leI (by omega) (by omega)] at c_67
      rw [show j = 1000 by omega]
      exact hcont f (fun q hq => hz q (by omega))
    · rw [show (1000 : Int32) = nI 1000 from rfl, nI_leI (by omega) (by omega)] at c_67
      refine x_aload_n dX14_tell_70 rfl ?_
      refine x_get lf_X14_37 dX14_tell_71 ((xup_ne (by omega)).trans M.o) rfl ?_
      refine x_iload dX14_tell_74 rfl ?_
      refine x_aload_n dX14_tell_76 rfl ?_
      refine x_get lf_X14_33 dX14_tell_77 ((xup_ne (by omega)).trans M.o) rfl ?_
      refine x_iload dX14_tell_80 rfl ?_
      refine x_zaldN (j := j) ((xup_ne (by omega)).trans (M.a 212 3 1000 rfl)) rfl (by omega) (by decide) dX14_tell_82 ?_
      refine x_top (h13 j (by omega)) ?_
      refine x_zastN (j := j) (xup_self _ _ _) rfl (by omega) (by decide) (bi01 _) dX14_tell_83 ?_
      refine x_iinc (v := nI (j + 1)) [(0, .ref 205), (1, .int i1), (2, .int i2), (3, .int i3), (4, .int i4), (5, .int (nI (j + 1)))] dX14_tell_84 rfl (nI_add j 1) (by decide) rfl rfl ?_
      refine x_goto 62 dX14_tell_87 (by decide) ?_
      refine x_heap (xup_up _ _ _ _) ?_
      exact ih (j + 1) _ (by omega) (by omega) (fun q hq => by by_cases e : q = j; (rw [e]; exact upd_at9); rw [upd_nq e]; exact hz q (by omega))
