/-! RuleCourt$Reader: read -/
def tellP (tk : Nat → Tk) (rc0 : Nat) (s0 : TS) (r : (Nat × Int32) ⊕ TS) : Prop := match pText tk 201 s0 with
  | .inl e => r = .inl e
  | .inr s => ((∃ S, Sat s.2.1 s.1 S) ∧ r = .inr s) ∨ ∃ j, j < s.1 ∧ own6 s.2.1 rc0 j ∧ r = .inl (6, (s.2.1 j).1 4)
theorem addF_lt {S : Nat → Bool} {fs : Nat → Int32} {i n : Nat} : addF S fs (i + 1) n = (addF S fs i n || decide (fs i = nI n)) := rfl
theorem fb_flip {S S' : Nat → Bool} {n : Nat} (hn : n < 1000) (h : S n = false) (e : ∀ k, k < 1000 → S' k = (S k || decide (k = n))) : fb_ct S' 1000 = fb_ct S 1000 + 1 := by
  have h1 := fb_ct_upd S true hn (n := 1000)
  rw [h] at h1
  have h2 : fb_ct S' 1000 = fb_ct (fun k => if k = n then true else S k) 1000 := fb_ct_cong (fun k hk => by
    rw [e k hk]
    by_cases z : k = n
    · rw [if_pos z]; simp [z]
    · rw [if_neg z]; simp [z])
  rw [h2]
  simpa using h1
/-- the frame of a text -/
def rdF (h0 h : xHp) : Prop := h.2 = h0.2 ∧ ∀ a, a < 3 ∨ 187 ≤ a → h.1 a = h0.1 a
def lyOk (V : Nat → RV) (rc : Nat) (lf : Nat → Int32) (L : Nat → Nat) : Prop := (∀ k, k < 10 → lf k = nI (L k)) ∧ (∀ k, L k ≤ 9) ∧ Sat V rc L ∧ ∀ S, Sat V rc S → ∀ k, k < 10 → L k ≤ S k
def rdBad (h0 h : xHp) (rc : Nat) (fc : Int32) (ra : Nat → Nat) (V : Nat → RV) (q : PQ) (fr : Nat → Int32) (e : Nat) (p : Int32) : Prop := ∃ (V9 : Nat → RV) (kw tw : Nat → Int64) (pf : Nat → Int32) (pc9 : Nat → Nat) (lf : Nat → Int32) (L : Nat → Nat) (cl : Int32), bkF h rc fc q.1 q.2.2.1 lf ra V9 kw tw pf fr ∧ (∀ r, r < rc → V9 r = V r) ∧ wOk q.1 q.2.1 tw ∧ wOk q.2.2.1 q.2.2.2.1 kw ∧ (∀ j, j < 10 → pf j = nI (pc9 j) ∧ pc9 j < 3) ∧ (∀ j, j < q.2.2.1 → pc9 j = q.2.2.2.2 j) ∧ lyOk V9 rc lf L ∧ rdH h cl (nI e) p ∧ rdF h0 h
def rdGood (h0 h : xHp) (ra : Nat → Nat) (S : Nat → Bool) (s : TS) : Prop := ∃ (kw tw : Nat → Int64) (pf : Nat → Int32) (lf : Nat → Int32) (L : Nat → Nat) (fr : Nat → Int32), bkF h s.1 (nI (fb_ct (addF S s.2.2.2.1 s.2.2.1) 1000)) s.2.2.2.2.1.1 s.2.2.2.2.1.2.2.1 lf ra s.2.1 kw tw pf fr ∧ wOk s.2.2.2.2.1.1 s.2.2.2.2.1.2.1 tw ∧ wOk s.2.2.2.2.1.2.2.1 s.2.2.2.2.1.2.2.2.1 kw ∧ (∀ j, j < 10 → pf j = nI (s.2.2.2.2.1.2.2.2.2 j) ∧ s.2.2.2.2.1.2.2.2.2 j < 3) ∧ lyOk s.2.1 s.1 lf L ∧ isRows fr (addF S s.2.2.2.1 s.2.2.1) ∧ rdH h (nI s.2.2.2.2.2.2) 0 (-1) ∧ rdF h0 h
def rdQ (tk : Nat → Tk) (h0 : xHp) (rc : Nat) (fc : Int32) (ra : Nat → Nat) (V : Nat → RV) (q : PQ) (fr fs : Nat → Int32) (S : Nat → Bool) : Option Value ⊕ Nat → xHp → Prop := fun o h => (∃ e p, tellP tk rc (rc, V, 0, fs, q, 0, 0) (.inl (e, p)) ∧ o = .inl (some (.int 0)) ∧ rdBad h0 h rc fc ra V q fr e p) ∨ ∃ s, tellP tk rc (rc, V, 0, fs, q, 0, 0) (.inr s) ∧ tsI rc V q s ∧ o = .inl (some (.int 1)) ∧ rdGood h0 h ra S s
theorem Sat_cong {V V' : Nat → RV} {n : Nat} {S : Nat → Nat} (e : ∀ r, r < n → V' r = V r) (h : Sat V n S) : Sat V' n S := fun r hr => by rw [e r hr]; exact h r hr
theorem wOk_sub {m n : Nat} {T T' : Nat → List Nat} {tw : Nat → Int64} (h : wOk n T' tw) (hm : m ≤ n) (e : ∀ k, k < m → T' k = T k) : wOk m T tw := fun k hk => by rw [← e k hk]; exact h k (by omega)
theorem bk_sz {h : xHp} {rc rc0 : Nat} {fc : Int32} {nt nk nt0 nk0 : Nat} {lf : Nat → Int32} {ra : Nat → Nat} {V : Nat → RV} {kw tw : Nat → Int64} {pf fr : Nat → Int32} (b : bkF h rc fc nt nk lf ra V kw tw pf fr) : bkF (xup (xup (xup h 4 (.inr (6, [.ref 5, .int (nI nk0)]))) 6 (.inr (6, [.ref 7, .int (nI nt0)]))) 3 (bC 4 6 8 9 11 rc0 12 fc)) rc0 fc nt0 nk0 lf ra V kw tw pf fr := by
  have hx : xfr h (xup (xup (xup h 4 (.inr (6, [.ref 5, .int (nI nk0)]))) 6 (.inr (6, [.ref 7, .int (nI nt0)]))) 3 (bC 4 6 8 9 11 rc0 12 fc)) [4, 6, 3] := (((xfr_rf _ _).up (by decide)).up (by decide)).up (by decide)
  obtain ⟨⟨b1, b2, b3, b4, b5, ⟨⟨rf, b6, b7⟩, b8⟩, b9⟩, c1, c2, c3, c4, c5⟩ := b
  exact ⟨⟨xup_self _ _ _, (xup_ne (by decide)).trans ((xup_ne (by decide)).trans (xup_self _ _ _)), (xup_ne (by decide)).trans (xup_self _ _ _), hx.at b4 (by decide), hx.at b5 (by decide), ⟨⟨rf, hx.at b6 (by decide), b7⟩, fun j hj => rlV_fr (b8 j hj) hx (b9 j hj) (by decide)⟩, b9⟩, hx.at c1 (by decide), hx.at c2 (by decide), hx.at c3 (by decide), hx.at c4 (by decide), c5⟩
theorem bk_ly {h h' : xHp} {rc : Nat} {fc : Int32} {nt nk : Nat} {lf : Nat → Int32} {ra : Nat → Nat} {V : Nat → RV} {kw tw : Nat → Int64} {pf fr : Nat → Int32} (b : bkF h rc fc nt nk lf ra V kw tw pf fr) (lf9 : Nat → Int32) (e : h' = xup h 10 (.inl (0, 10, .inl lf9))) : bkF h' rc fc nt nk lf9 ra V kw tw pf fr := by
  rw [e]
  have hx : xfr h (xup h 10 (.inl (0, 10, .inl lf9))) [10] := (xfr_rf _ _).up (by decide)
  obtain ⟨⟨b1, b2, b3, b4, b5, ⟨⟨rf, b6, b7⟩, b8⟩, b9⟩, c1, c2, c3, c4, c5⟩ := b
  exact ⟨⟨hx.at b1 (by decide), hx.at b2 (by decide), hx.at b3 (by decide), hx.at b4 (by decide), xup_self _ _ _, ⟨⟨rf, hx.at b6 (by decide), b7⟩, fun j hj => rlV_fr (b8 j hj) hx (b9 j hj) (by decide)⟩, b9⟩, hx.at c1 (by decide), hx.at c2 (by decide), hx.at c3 (by decide), hx.at c4 (by decide), c5⟩
set_option maxRecDepth 100000 in
set_option maxHeartbeats 4000000 in
theorem l_X7_back {G : xG} {Q : Option Value ⊕ Nat → xHp → Prop} {h : xHp} {rc : Nat} {fc : Int32} {nt nk : Nat} {lf : Nat → Int32} {ra : Nat → Nat} {V : Nat → RV} {kw tw : Nat → Int64} {pf fr : Nat → Int32} (bk : bkF h rc fc nt nk lf ra V kw tw pf fr) {c2 c4 c5 c6 c7 n9 a6 : Int32} (h181 : h.1 181 = some (.inr (7, [.ref 3, .ref 182, .int c2, .ref 186, .int c4, .int c5, .int c6, .int c7]))) {q0 : PQ} {rc0 : Nat} (hr0 : rc0 ≤ 20) (hV : ∀ r, r < rc0 → okK (V r)) {S0 : Nat → Nat} (hs0 : Sat V rc0 S0) (hend : ∀ (h' : xHp) (lf9 : Nat → Int32) (L9 : Nat → Nat), bkF h' rc0 fc q0.1 q0.2.2.1 lf9 ra V kw tw pf fr → lyOk V rc0 lf9 L9 → (∀ a, a < 3 ∨ 13 ≤ a → a < 13 + 8 * 0 ∨ 13 ≤ a ∨ a < 3 → h'.1 a = h.1 a) → h'.2 = h.2 → Q (.inl (some (.int 0))) h') : Wx G mX7_read (xRm 6 0 0) (xF G Q 0 0) 0 0 182 [(0, .ref 181), (1, .ref 2), (2, .int n9), (3, .int (nI q0.2.2.1)), (4, .int (nI q0.1)), (5, .int (nI rc0)), (6, .int a6)] [] h := by
  refine x_aload_n dX7_read_182 rfl ?_
  refine x_get lf_X7_22 dX7_read_183 h181 rfl ?_
  refine x_get lf_X7_26 dX7_read_186 bk.1.1 rfl ?_
  refine x_iload_n dX7_read_189 rfl ?_
  refine x_put [.ref 5, .int (nI q0.2.2.1)] lf_X7_32 dX7_read_190 bk.1.2.1 (Nat.le_of_ble_eq_true rfl) rfl rfl rfl ?_
  refine x_aload_n dX7_read_193 rfl ?_
  refine x_get lf_X7_22 dX7_read_194 ((xup_ne (by decide)).trans h181) rfl ?_
  refine x_get lf_X7_38 dX7_read_197 ((xup_ne (by decide)).trans bk.1.1) rfl ?_
  refine x_iload dX7_read_200 rfl ?_
  refine x_put [.ref 7, .int (nI q0.1)] lf_X7_32 dX7_read_202 ((xup_ne (by decide)).trans bk.1.2.2.1) (Nat.le_of_ble_eq_true rfl) rfl rfl rfl ?_
  refine x_aload_n dX7_read_205 rfl ?_
  refine x_get lf_X7_22 dX7_read_206 ((xup_ne (by decide)).trans ((xup_ne (by decide)).trans h181)) rfl ?_
  refine x_iload dX7_read_209 rfl ?_
  refine x_put [.ref 4, .ref 6, .ref 8, .ref 9, .ref 11, .int (nI rc0), .ref 12, .int fc] lf_X7_41 dX7_read_211 ((xup_ne (by decide)).trans ((xup_ne (by decide)).trans bk.1.1)) (Nat.le_of_ble_eq_true rfl) rfl rfl rfl ?_
  refine x_aload_n dX7_read_214 rfl ?_
  refine x_get lf_X7_22 dX7_read_215 ((xup_ne (by decide)).trans ((xup_ne (by decide)).trans ((xup_ne (by decide)).trans h181))) rfl ?_
  refine x_get lf_X7_83 dX7_read_218 (xup_self _ _ _) rfl ?_
  refine x_aload_n dX7_read_221 rfl ?_
  refine x_get lf_X7_22 dX7_read_222 ((xup_ne (by decide)).trans ((xup_ne (by decide)).trans ((xup_ne (by decide)).trans h181))) rfl ?_
  refine x_get lf_X7_67 dX7_read_225 (xup_self _ _ _) rfl ?_
  refine x_iload dX7_read_228 rfl ?_
  have hb9 : bkF (xup (xup (xup h 4 (.inr (6, [.ref 5, .int (nI q0.2.2.1)]))) 6 (.inr (6, [.ref 7, .int (nI q0.1)]))) 3 (.inr (0, [.ref 4, .ref 6, .ref 8, .ref 9, .ref 11, .int (nI rc0), .ref 12, .int fc]))) rc0 fc q0.1 q0.2.2.1 lf ra V kw tw pf fr := bk_sz bk
  refine x_callV (As := [.ref 11, .int (nI rc0)]) (st := []) lv_X7_87 (k_X4_settle hb9.1.2.2.2.1 hb9.1.2.2.2.2.1 hb9.1.2.2.2.2.2.1 (by omega) (fun r9 hr9 => hV r9 hr9)) dX7_read_230 hb9.1.2.2.2.1 rfl rfl (Nat.le_of_ble_eq_true rfl) ⟨by decide, by decide⟩ ⟨by decide, by decide⟩ (fun v9 h9 z => ?_) (fun _ _ _ _ _ z => by obtain ⟨_, _, _, z, _⟩ := z; cases z)
  obtain ⟨b9, lf9, L9, ev, eh, l1, l2, l3, l4⟩ := z
  cases ev
  refine x_pop dX7_read_233 rfl ?_
  refine x_iconst (v := 0) dX7_read_234 (by decide) ?_
  have hb : b9 = true := by cases e : b9 <;> first | rfl | exact absurd ⟨S0, hs0⟩ (l4 e)
  exact x_iret dX7_read_235 rfl rfl (Nat.le_refl _) (Nat.le_refl _) (hend _ lf9 L9 (bk_ly hb9 lf9 eh) ⟨l1, l2, (l3 hb).1, (l3 hb).2⟩ (by rw [eh]; exact fun a a1 a2 => ((xup_ne (by omega)).trans ((xup_ne (by omega)).trans ((xup_ne (by omega)).trans (xup_ne (by omega)))))) (by rw [eh]; rfl))
