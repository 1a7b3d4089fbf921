/-! the reference: readClause, its walk -/
theorem MH.fr2 {h h1 : xHp} {g : Nat → Int32} {w : Int64} {nw : Value} {ar : Nat → Nat → Int32} {tw kw : Nat → Int64} {rf : Nat → Option Nat} (M : MH h g w nw ar tw kw rf) (e2 : 226 ≤ h1.2) (e : ∀ q, 205 ≤ q → q < 226 → h1.1 q = h.1 q) : MH h1 g w nw ar tw kw rf := ⟨e2, (e _ (by omega) (by omega)).trans M.o, (e _ (by omega) (by omega)).trans M.t, (e _ (by omega) (by omega)).trans M.k, (e _ (by omega) (by omega)).trans M.r, (by obtain ⟨k, p, x⟩ := M.s; exact ⟨k, p, (e _ (by omega) (by omega)).trans x⟩), fun c ty n x => (e c (by have := aT_in x; omega) (by have := aT_in x; omega)).trans (M.a c ty n x)⟩
theorem at1_4 {tk : Nat → Tk} {q q' : PQ} {v v' : RV} {k i kd pl k' : Nat} {nw : Bool} (h : pAt1 tk q v k i kd pl nw = .inr (q', v', k')) : tmI v' i 4 = tmI v i 4 := by
  have fin : ∀ {q : PQ} {u : RV} {k : Nat}, pFin q u i kd pl nw k = .inr (q', v', k') → v' = u := fun {q u k} h => by
    unfold pFin at h
    split at h
    · cases h
    · injection h with h; injection h with _ h; injection h with h _; exact h.symm
  unfold pAt1 at h
  by_cases a : (tk k).1 = 40
  · rw [if_pos a] at h
    cases e : pArg tk q v (k + 1) i true with
    | inl z => rw [e] at h; cases h
    | inr z =>
      obtain ⟨q2, v2⟩ := z
      rw [e] at h
      simp only [] at h
      have k2 := (pArg_keep e).2.1
      by_cases b : (tk (k + 2)).1 = 44
      · rw [if_pos b] at h
        cases e3 : pArg tk q2 v2 (k + 3) i false with
        | inl z => rw [e3] at h; cases h
        | inr z =>
          obtain ⟨q3, v3⟩ := z
          rw [e3] at h
          simp only [] at h
          unfold pAt2 at h
          by_cases c : (tk (k + 4)).1 = 41
          · rw [if_pos c] at h; rw [fin h]; exact (pArg_keep e3).2.1.trans k2
          · rw [if_neg c] at h; cases h
      · rw [if_neg b] at h
        unfold pAt2 at h
        by_cases c : (tk (k + 2)).1 = 41
        · rw [if_pos c] at h; rw [fin h]; exact k2
        · rw [if_neg c] at h; cases h
  · rw [if_neg a] at h; rw [fin h]
theorem atom_4 {tk : Nat → Tk} {q q' : PQ} {v v' : RV} {k i k' : Nat} (h : pAtom tk q v k i = .inr (q', v', k')) : tmI v' i 4 = nI (tk k).2.1 := by
  unfold pAtom at h
  by_cases a : (tk k).1 = 2 ∧ ¬ (tk k).2.2 = NOTW
  · rw [if_pos a] at h
    by_cases b : wLook q.2.2.2.1 (tk k).2.2 q.2.2.1 < q.2.2.1
    · rw [if_pos b] at h; exact (at1_4 h).trans (kdV_1 _ _ _ _).2
    · rw [if_neg b] at h
      by_cases c : q.2.2.1 < 10
      · rw [if_pos c] at h; exact (at1_4 h).trans (kdV_1 _ _ _ _).2
      · rw [if_neg c] at h; cases h
  · rw [if_neg a] at h; cases h
theorem endF_bad {nt : Nat} {q : PQ} {v : RV} {k : Nat} (h2 : okA nt (v.1 2)) (h3 : okA nt (v.1 3)) (hn : nt ≤ 10) (h : 0 < (tmL v.1).length) : ∃ s p, (tmL v.1)[0]? = some (s, p) ∧ pEndF q v k = .inl (3, p) := by
  unfold tmL at h ⊢
  unfold pEndF
  by_cases c : v.1 2 < 100
  · rw [if_pos c]
    rw [argL_th c] at h ⊢
    by_cases d : v.1 3 < 100
    · rw [argL_th d] at h; simp at h
    · obtain ⟨s, hs, e⟩ := okA_ge h3 hn d
      rw [if_neg d, e, argL_sg hs]
      exact ⟨s, _, rfl, rfl⟩
  · obtain ⟨s, hs, e⟩ := okA_ge h2 hn c
    rw [if_neg c, e, argL_sg hs]
    exact ⟨s, _, rfl, rfl⟩
theorem endF_ok {nt : Nat} {v : RV} (h2 : okA nt (v.1 2)) (h3 : okA nt (v.1 3)) (hn : nt ≤ 10) (h : (tmL v.1).length ≤ 0) : v.1 2 < 100 ∧ v.1 3 < 100 := by
  unfold tmL at h
  rw [List.length_append] at h
  refine ⟨?_, ?_⟩
  · by_cases c : v.1 2 < 100
    · exact c
    · obtain ⟨s, hs, e⟩ := okA_ge h2 hn c
      rw [e, argL_sg hs] at h; simp at h
  · by_cases c : v.1 3 < 100
    · exact c
    · obtain ⟨s, hs, e⟩ := okA_ge h3 hn c
      rw [e, argL_sg hs] at h; simp at h
set_option maxRecDepth 100000 in
set_option maxHeartbeats 4000000 in
theorem l_X14_stood {G : xG} {Q : Option Value ⊕ Nat → xHp → Prop} {h1 : xHp} {g0 : Nat → Int32} {ar0 : Nat → Nat → Int32} {rf : Nat → Option Nat} {rc : Nat} {ts : Nat} {tk : Nat → Tk} {pos : Nat → Nat} {h : xHp} {q : PQ} {v : RV} {k T : Nat} {pl : Int32} {g : Nat → Int32} {w : Int64} {ar : Nat → Nat → Int32} {tw kw : Nat → Int64} (MM : MR9 h1 h g0 ar0 rf rc tk pos q v k T (T + 1) T pl XT9 g w ar tw kw) (hk : k < ts) {m1 : Int32} {B : Nat} (hB1 : B < 8) (hB2 : g 29 = nI B) (hln : (stL v T).length ≤ 10) (hall : ∀ (j s : Nat) (p : Int32), (stL v T)[j]? = some (s, p) → s < 3) (k1 : ∀ p, fstU B (stL v T) = some p → Q (.inr 215) (xup h 215 (sC 5 p))) (k2 : fstU B (stL v T) = none → Wx G mX14_readClause (xRm 6 6 31) (xF G Q 6 31) 6 31 210 [(0, .ref 205), (1, .int m1), (2, .int (nI (stL v T).length))] [] h) : ∀ (f j : Nat), j ≤ (stL v T).length → (stL v T).length + 1 ≤ j + f → (∀ (i9 r9 : Nat) (o9 : Int32), i9 < j → (stL v T)[i9]? = some (r9, o9) → B.testBit r9 = true) → Wx G mX14_readClause (xRm 6 6 31) (xF G Q 6 31) 6 31 168 [(0, .ref 205), (1, .int m1), (2, .int (nI j))] [] h := by
  obtain ⟨M1, cu1, gk1, ak1, qm1, gg1, dr1, sm1, bd1, fr1⟩ := id MM
  obtain ⟨so1, kd1, on1, tz1, lt1, dc1, de1, dl1, dx1⟩ := id dr1
  intro f
  induction f with
  | zero => exact fun j h1 h2 => absurd h2 (by omega)
  | succ f ih =>
    intro j hj1 hj2 hj
    refine x_iload_n dX14_readClause_168 rfl ?_
    refine x_aload_n dX14_readClause_169 rfl ?_
    refine x_get lf_X14_162 dX14_readClause_170 M1.o rfl ?_
    refine x_top (y := nI ((stL v T).length)) sm1.1 ?_
    refine x_icmp_ge 210 dX14_readClause_173 (by decide) (fun c_173 => ?_) (fun c_173 => ?_)
    · rw [nI_leI (by omega) (by omega)] at c_173
      rw [show j = (stL v T).length by omega]; exact k2 (fst_no (fun i9 r9 o9 hr9 => hj i9 r9 o9 (by rcases Nat.lt_or_ge i9 j with z | z; exact z; rw [List.getElem?_eq_none (by omega)] at hr9; cases hr9) hr9))
    · rw [nI_leI (by omega) (by omega)] at c_173
      obtain ⟨⟨s9, p9⟩, hget⟩ : ∃ a, (stL v T)[j]? = some a := ⟨_, List.getElem?_eq_getElem (by omega)⟩
      have hsp := sm1.2 j s9 p9 hget
      have hs3 : s9 < 3 := hall j s9 p9 hget
      have hlt10 : (stL v T).length ≤ 10 := hln
      refine x_aload_n dX14_readClause_176 rfl ?_
      refine x_get lf_X14_159 dX14_readClause_177 M1.o rfl ?_
      refine x_top (y := nI B) hB2 ?_
      refine x_aload_n dX14_readClause_180 rfl ?_
      refine x_get lf_X14_60 dX14_readClause_181 M1.o rfl ?_
      refine x_iload_n dX14_readClause_184 rfl ?_
      refine x_ialdN (j := j) (M1.a 218 0 10 rfl) rfl (by omega) (by decide) dX14_readClause_185 ?_
      refine x_top hsp.1 ?_
      refine x_ishr dX14_readClause_186 ?_
      refine x_iconst (v := 1) dX14_readClause_187 (by decide) ?_
      refine x_iand dX14_readClause_188 ?_
      refine x_top (y := bi (B.testBit s9)) (b3_get B hB1 s9 hs3) ?_
      refine x_if_ne 204 dX14_readClause_189 (by decide) (fun c_189 => ?_) (fun c_189 => ?_)
      · have c_189 := bi_t c_189
        refine x_iinc (v := nI (j + 1)) [(0, .ref 205), (1, .int m1), (2, .int (nI (j + 1)))] dX14_readClause_204 rfl (nI_add j 1) (by decide) rfl rfl ?_
        refine x_goto 168 dX14_readClause_207 (by decide) ?_
        exact ih (j + 1) (by omega) (by omega) (fun i9 r9 o9 hi9 hr9 => by by_cases e : i9 = j; (subst e; rw [hget] at hr9; injection hr9 with hr9; injection hr9 with e1 e2; rw [← e1]; exact c_189); exact hj i9 r9 o9 (by omega) hr9)
      · have c_189 := bi_f c_189
        refine x_aload_n dX14_readClause_192 rfl ?_
        refine x_iconst (v := 5) dX14_readClause_193 (by decide) ?_
        refine x_aload_n dX14_readClause_194 rfl ?_
        refine x_get lf_X14_57 dX14_readClause_195 M1.o rfl ?_
        refine x_iload_n dX14_readClause_198 rfl ?_
        refine x_ialdN (j := j) (M1.a 217 0 10 rfl) rfl (by omega) (by decide) dX14_readClause_199 ?_
        refine x_top hsp.2 ?_
        refine x_callV (As := [.int 5, .int p9]) (st := []) lv_X14_136 (k_X14_stop M1) dX14_readClause_200 M1.o rfl rfl (Nat.le_of_ble_eq_true rfl) ⟨by decide, by decide⟩ ⟨by decide, by decide⟩ (fun v9 h9 z => ?_) (fun _ _ _ _ _ z => by cases z.1)
        obtain ⟨ev, eh⟩ := z
        rw [eh]
        cases ev
        refine x_athrow dX14_readClause_203 (x_out (fun x hx => by cases hx) (xup_self _ _ _) (by decide) (by decide) (k1 p9 (fst_at hj hget (by rw [c_189]; decide))))
