/-! the reference: tell, what it does when a CLAUSE is refused -/
set_option maxRecDepth 100000 in
set_option maxHeartbeats 4000000 in
theorem l_X14_caught {G : xG} {R : Room} {Q : Option Value ⊕ Nat → xHp → Prop} {mc ms uc us n rc : Nat} {h0 h : xHp} {g0 : Nat → Int32} {ar0 : Nat → Nat → Int32} {V : Nat → RV} {q : PQ} {S : Nat → Bool} {e : Nat} {p : Int32} (huc : uc ≤ mc) (hus : us ≤ ms) (U : MU n h0 g0 ar0 rc V q h) (h15 : h.1 215 = some (sC (nI e) p)) (h13 : ∀ j, j < 1000 → ar0 213 j = bi (S j)) (hQ : ∀ h', TB n h0 g0 ar0 rc V q S e p h' → Q (.inl (some (.int (-1)))) h') : Wx G mX14_tell R (xF G Q mc ms) uc us 189 [(0, .ref 205), (1, .int (nI n)), (2, .int (nI q.1)), (3, .int (nI q.2.2.1)), (4, .int (nI rc))] [.ref 215] h := by
  obtain ⟨g, w, nw, ar, tw, kw, rf, q9, M, gk, ak, qm, ex, rT, c9, hc9, rt⟩ := U
  refine x_astore [(0, .ref 205), (1, .int (nI n)), (2, .int (nI q.1)), (3, .int (nI q.2.2.1)), (4, .int (nI rc)), (5, .ref 215)] dX14_tell_189 (by decide) rfl rfl ?_
  refine x_aload_n dX14_tell_191 rfl ?_
  refine x_iload_n dX14_tell_192 rfl ?_
  refine x_put (mL (upd g 4 (nI q.1)) w nw) lf_X14_96 dX14_tell_193 M.o (Nat.le_of_ble_eq_true rfl) rfl rfl rfl ?_
  refine x_aload_n dX14_tell_196 rfl ?_
  refine x_iload_n dX14_tell_197 rfl ?_
  refine x_put (mL (upd (upd g 4 (nI q.1)) 5 (nI q.2.2.1)) w nw) lf_X14_90 dX14_tell_198 (xup_self _ _ _) (Nat.le_of_ble_eq_true rfl) rfl rfl rfl ?_
  refine x_aload_n dX14_tell_201 rfl ?_
  refine x_iload dX14_tell_202 rfl ?_
  refine x_put (mL (upd (upd (upd g 4 (nI q.1)) 5 (nI q.2.2.1)) 6 (nI rc)) w nw) lf_X14_93 dX14_tell_204 (xup_self _ _ _) (Nat.le_of_ble_eq_true rfl) rfl rfl rfl ?_
  refine x_iconst (v := 0) dX14_tell_207 (by decide) ?_
  refine x_istore [(0, .ref 205), (1, .int (nI n)), (2, .int (nI q.1)), (3, .int (nI q.2.2.1)), (4, .int (nI rc)), (5, .ref 215), (6, .int 0)] dX14_tell_208 (by decide) rfl rfl ?_
  have M2 := (((M.g9 (upd g 4 (nI q.1)) w nw).g9 (upd (upd g 4 (nI q.1)) 5 (nI q.2.2.1)) w nw).g9 (upd (upd (upd g 4 (nI q.1)) 5 (nI q.2.2.1)) 6 (nI rc)) w nw)
  have h15b : ((xup (xup (xup h 205 (.inr (14, mL (upd g 4 (nI q.1)) w nw))) 205 (.inr (14, mL (upd (upd g 4 (nI q.1)) 5 (nI q.2.2.1)) w nw))) 205 (.inr (14, mL (upd (upd (upd g 4 (nI q.1)) 5 (nI q.2.2.1)) 6 (nI rc)) w nw)))).1 215 = some (sC (nI e) p) := ((xup_ne (by omega)).trans ((xup_ne (by omega)).trans ((xup_ne (by omega)).trans h15)))
  have Y2 : yfr h (xup (xup (xup h 205 (.inr (14, mL (upd g 4 (nI q.1)) w nw))) 205 (.inr (14, mL (upd (upd g 4 (nI q.1)) 5 (nI q.2.2.1)) w nw))) 205 (.inr (14, mL (upd (upd (upd g 4 (nI q.1)) 5 (nI q.2.2.1)) 6 (nI rc)) w nw))) := ((((yfr_rf _).up (by decide)).up (by decide)).up (by decide))
  have g2 : ∃ g2, g2 = upd (upd (upd g 4 (nI q.1)) 5 (nI q.2.2.1)) 6 (nI rc) := ⟨_, rfl⟩
  obtain ⟨g2, eg2⟩ := g2
  generalize xup (xup (xup h 205 (.inr (14, mL (upd g 4 (nI q.1)) w nw))) 205 (.inr (14, mL (upd (upd g 4 (nI q.1)) 5 (nI q.2.2.1)) w nw))) 205 (.inr (14, mL (upd (upd (upd g 4 (nI q.1)) 5 (nI q.2.2.1)) 6 (nI rc)) w nw)) = h2 at M2 h15b Y2 ⊢
  rw [← eg2] at M2
  refine x_heap (xup_id (M2.a 212 3 1000 rfl)).symm ?_
  refine l_X14_back M2 (fun j hj => by rw [ak 213 (by decide)]; exact h13 j hj) (fun f hf => ?_) 1001 0 (ar 212) (by omega) (by omega) (fun q hq => absurd hq (by omega))
  refine x_aload_n dX14_tell_238 rfl ?_
  refine x_aload dX14_tell_239 rfl ?_
  refine x_get lf_X14_99 dX14_tell_241 ((xup_ne (by omega)).trans h15b) rfl ?_
  refine x_put (mL (upd g2 3 (nI e)) w nw) lf_X14_217 dX14_tell_244 ((xup_ne (by omega)).trans M2.o) (Nat.le_of_ble_eq_true rfl) rfl rfl rfl ?_
  refine x_aload_n dX14_tell_247 rfl ?_
  refine x_iconst (v := 4) dX14_tell_248 (by decide) ?_
  refine x_put (mL (upd (upd g2 1 4) 3 (nI e)) w nw) lf_X14_87 dX14_tell_249 (xup_self _ _ _) (Nat.le_of_ble_eq_true rfl) rfl rfl rfl ?_
  refine x_aload_n dX14_tell_252 rfl ?_
  refine x_aload dX14_tell_253 rfl ?_
  refine x_get lf_X14_101 dX14_tell_255 ((xup_ne (by omega)).trans ((xup_ne (by omega)).trans ((xup_ne (by omega)).trans h15b))) rfl ?_
  refine x_put (mL (upd (upd (upd g2 1 4) 2 p) 3 (nI e)) w nw) lf_X14_9 dX14_tell_258 (xup_self _ _ _) (Nat.le_of_ble_eq_true rfl) rfl rfl rfl ?_
  refine x_iconst (v := (-1)) dX14_tell_261 (by decide) ?_
  have M3 := ((((M2.a9 (c := 212) rfl f).g9 (upd g2 3 (nI e)) w nw).g9 (upd (upd g2 1 4) 3 (nI e)) w nw).g9 (upd (upd (upd g2 1 4) 2 p) 3 (nI e)) w nw)
  have Y3 : yfr h (xup (xup (xup (xup h2 212 (.inl (3, 1000, .inl f))) 205 (.inr (14, mL (upd g2 3 (nI e)) w nw))) 205 (.inr (14, mL (upd (upd g2 1 4) 3 (nI e)) w nw))) 205 (.inr (14, mL (upd (upd (upd g2 1 4) 2 p) 3 (nI e)) w nw))) := Y2.tr (((((yfr_rf _).up (by decide)).up (by decide)).up (by decide)).up (by decide))
  refine x_iret dX14_tell_262 rfl rfl huc hus (hQ _ ⟨_, _, _, _, _, _, _, q9.2.2.2.2, M3, ?_, ⟨rfl, rfl, rfl, ?_, ?_, ?_⟩, ?_, ?_, fun j hj => (ex.2.2.2 j hj).2, ?_, rT.y Y3, c9, hc9, rt.y Y3⟩)
  · intro j hj
    rw [upd_nq (by omega), upd_nq (by omega), upd_nq (by omega), eg2, upd_nq (by omega), upd_nq (by omega), upd_nq (by omega)]
    exact gk j (by omega)
  · rw [eg2]; rfl
  · rw [eg2]; rfl
  · rw [eg2]; rfl
  · intro c hc
    rw [apF_ne (by omega)]
    exact ak c hc
  · exact (qm.cut ex).ap (by decide) (by decide) (by decide)
  · intro j hj
    rw [apF_at]; exact hf j hj
