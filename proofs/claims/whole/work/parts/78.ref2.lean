/-! the reference: TOKENS -/
def bA (b : Nat → Nat) (n j : Nat) : Int32 := if j < n then nI (b j) else -1
def tpM (ar : Nat → Nat → Int32) (b : Nat → Nat) (n : Nat) : Prop := n ≤ 400 ∧ ∀ i, i < n → ar 216 i &&& 255 = nI (b i) ∧ b i < 256
def curT (t : Tk) (p : Nat) (g : Nat → Int32) (w : Int64) : Prop := g 22 = nI t.2.1 ∧ (t.1 = 0 → g 21 = 1 ∧ g 23 = 0) ∧ (t.1 = 1 → g 21 = 0 ∧ g 23 = 0) ∧ (t.1 = 2 → g 21 = 2 ∧ g 23 = 0 ∧ w = lN (mw t.2.2) ∧ g 24 = nI t.2.2.length ∧ g 20 = nI p) ∧ (t.1 = 3 → g 21 = 3 ∧ g 23 = cS t ∧ g 20 = nI p) ∧ (4 ≤ t.1 → g 21 = 4 ∧ g 23 = nI t.1 ∧ g 20 = nI p)
def gSame (g g' : Nat → Int32) : Prop := ∀ j, j < 20 ∨ 24 < j → g' j = g j
theorem gSame_rf (g : Nat → Int32) : gSame g g := fun _ _ => rfl
theorem gSame.up {g g' : Nat → Int32} (h : gSame g g') {k : Nat} {x : Int32} (hk : 20 ≤ k ∧ k ≤ 24) : gSame g (upd g' k x) := fun j hj => by rw [upd_nq (by omega)]; exact h j hj
theorem wdL_t (b : Nat → Nat) (st m : Nat) : wdL b st (m + 1) = wdL b st m ++ [b (st + m) - 96] := by
  simp [wdL, List.range_succ]
theorem mw_s (l : List Nat) (c : Nat) : mw (l ++ [c]) = 32 * mw l + c := by
  simp [mw, mwr]
theorem mw_step {b : Nat → Nat} {st m : Nat} (h : isL (b (st + m))) : 32 * lN (mw (wdL b st m)) + (nI (b (st + m)) - 97 + 1).toInt64 = lN (mw (wdL b st (m + 1))) := by
  unfold isL at h
  rw [wdL_t, mw_s, show (97 : Int32) = nI 97 from rfl, pk_sub (by omega), show (1 : Int32) = nI 1 from rfl, nI_add, nI_l (by omega), show (32 : Int64) = lN 32 from rfl, lN_mul, lN_add]
  congr 2
  omega
theorem lx_end {b : Nat → Nat} {n p' : Nat} {t : Tk} (h : lxA b n n t p') : t.1 = 0 := by
  rcases h with ⟨a, c, d⟩ | ⟨m, a, c, d, e, f, g, i, j⟩ | ⟨a, c, d⟩ | ⟨a, c, d, e, f⟩ | ⟨a, c, d, e⟩ | ⟨a, c, d, e, f, g⟩ <;> first | exact c | omega
theorem lx_sgn {b : Nat → Nat} {n st p' : Nat} {t : Tk} (h : lxA b n st t p') (h1 : st < n) (h2 : isS (b st)) : t.1 = 3 ∧ t.2.2 = [b st] ∧ p' = st + 1 := by
  unfold isS at h2
  rcases h with ⟨a, c, d⟩ | ⟨m, a, c, d, e, f, g, i, j⟩ | ⟨a, c, d⟩ | ⟨a, c, d, e, f⟩ | ⟨a, c, d, e⟩ | ⟨a, c, d, e, f, g⟩
  · omega
  · have := e 0 (by omega); unfold isL at this; simp only [Nat.add_zero] at this; omega
  · have := c 0 (by omega); unfold isL at this; simp only [Nat.add_zero] at this; omega
  · exact ⟨d, e, f⟩
  · unfold isM at c; omega
  · exact absurd h2 e
theorem lx_mrk {b : Nat → Nat} {n st p' : Nat} {t : Tk} (h : lxA b n st t p') (h1 : st < n) (h2 : isM (b st)) : t.1 = b st ∧ p' = st + 1 := by
  have h3 := h2
  unfold isM at h2
  rcases h with ⟨a, c, d⟩ | ⟨m, a, c, d, e, f, g, i, j⟩ | ⟨a, c, d⟩ | ⟨a, c, d, e, f⟩ | ⟨a, c, d, e⟩ | ⟨a, c, d, e, f, g⟩
  · omega
  · have := e 0 (by omega); unfold isL at this; simp only [Nat.add_zero] at this; omega
  · have := c 0 (by omega); unfold isL at this; simp only [Nat.add_zero] at this; omega
  · unfold isS at c; omega
  · exact ⟨d, e⟩
  · exact absurd h3 f
theorem lx_bad {b : Nat → Nat} {n st p' : Nat} {t : Tk} (h : lxA b n st t p') (h1 : st < n) (hl : ¬ isL (b st)) (hs : ¬ isS (b st)) (hm : ¬ isM (b st)) : t.1 = 1 := by
  rcases h with ⟨a, c, d⟩ | ⟨m, a, c, d, e, f, g, i, j⟩ | ⟨a, c, d⟩ | ⟨a, c, d, e, f⟩ | ⟨a, c, d, e⟩ | ⟨a, c, d, e, f, g⟩
  · omega
  · exact absurd (e 0 (by omega)) hl
  · exact absurd (c 0 (by omega)) hl
  · exact absurd c hs
  · exact absurd c hm
  · exact g
theorem lx_wrd {b : Nat → Nat} {n st p' m : Nat} {t : Tk} (h : lxA b n st t p') (h1 : 1 ≤ m) (h2 : st + m ≤ n) (hl : ∀ j, j < m → isL (b (st + j))) (he : st + m = n ∨ ¬ isL (b (st + m))) : (m ≤ 8 → t.1 = 2 ∧ t.2.2 = wdL b st m ∧ p' = st + m) ∧ (¬ m ≤ 8 → t.1 = 1) := by
  have hl0 := hl 0 (by omega)
  simp only [Nat.add_zero] at hl0
  rcases h with ⟨a, c, d⟩ | ⟨q, a, c, d, e, f, g, i, j⟩ | ⟨a, c, d⟩ | ⟨a, c, d, e, f⟩ | ⟨a, c, d, e⟩ | ⟨a, c, d, e, f, g⟩
  · omega
  · have e9 : q = m := by
      rcases Nat.lt_trichotomy q m with z | z | z
      · rcases f with f | f
        · omega
        · exact absurd (hl q z) f
      · exact z
      · rcases he with he | he
        · omega
        · exact absurd (e m z) he
    subst e9
    exact ⟨fun _ => ⟨g, i, j⟩, fun z => absurd c z⟩
  · refine ⟨fun z => ?_, fun _ => d⟩
    rcases he with he | he
    · omega
    · exact absurd (c m (by omega)) he
  · unfold isL at hl0; unfold isS at c; omega
  · unfold isL at hl0; unfold isM at c; omega
  · exact absurd hl0 c
set_option maxRecDepth 100000 in
set_option maxHeartbeats 4000000 in
theorem k_X14_byteAt {G : xG} {h : xHp} {g : Nat → Int32} {w : Int64} {nw : Value} {ar : Nat → Nat → Int32} {tw : Nat → Int64} {kw : Nat → Int64} {rf : Nat → Option Nat} (M : MH h g w nw ar tw kw rf) {b : Nat → Nat} {n : Nat} (hT : tpM ar b n) (h19 : g 19 = nI n) {j : Nat} (hj : j ≤ 400) : MX G mX14_byteAt 1 0 0 [.ref 205, .int (nI j)] h (xAns (.int (bA b n j)) h) := by
  have hn4 := hT.1
  refine MX.of [(0, .ref 205), (1, .int (nI j))] (by decide) rfl (Nat.le_of_ble_eq_true rfl) rfl ?_
  refine x_iload_n dX14_byteAt_0 rfl ?_
  refine x_aload_n dX14_byteAt_1 rfl ?_
  refine x_get lf_X14_104 dX14_byteAt_2 M.o rfl ?_
  refine x_top (y := nI n) h19 ?_
  refine x_icmp_ge 21 dX14_byteAt_5 (by decide) (fun c_5 => ?_) (fun c_5 => ?_)
  · rw [nI_leI (by omega) (by omega)] at c_5
    refine x_iconst (v := (-1)) dX14_byteAt_21 (by decide) ?_
    exact x_iret dX14_byteAt_22 rfl rfl (Nat.le_refl _) (Nat.le_refl _) ⟨by unfold bA; rw [if_neg (by omega)], rfl⟩
  · rw [nI_leI (by omega) (by omega)] at c_5
    refine x_aload_n dX14_byteAt_8 rfl ?_
    refine x_get lf_X14_53 dX14_byteAt_9 M.o rfl ?_
    refine x_iload_n dX14_byteAt_12 rfl ?_
    refine x_baldN (j := j) (M.a 216 2 400 rfl) rfl (by omega) (by decide) dX14_byteAt_13 ?_
    refine x_sipush (v := 255) dX14_byteAt_14 (by decide) ?_
    refine x_iand dX14_byteAt_17 ?_
    refine x_goto 22 dX14_byteAt_18 (by decide) ?_
    exact x_iret dX14_byteAt_22 rfl rfl (Nat.le_refl _) (Nat.le_refl _) ⟨by unfold bA; rw [if_pos (by omega), ← (hT.2 j (by omega)).1], rfl⟩
set_option maxRecDepth 100000 in
set_option maxHeartbeats 4000000 in
theorem k_X14_isLetter {G : xG} {h : xHp} {x : Int32} : MX G mX14_isLetter 1 0 0 [.int x] h (xAsk (97 ≤ x ∧ x ≤ 122) h) := by
  refine MX.of [(0, .int x)] (by decide) rfl (Nat.le_of_ble_eq_true rfl) rfl ?_
  refine x_iload_n dX14_isLetter_0 rfl ?_
  refine x_bipush (v := 97) dX14_isLetter_1 (by decide) ?_
  refine x_icmp_lt 16 dX14_isLetter_3 (by decide) (fun c_3 => ?_) (fun c_3 => ?_)
  · refine x_iconst (v := 0) dX14_isLetter_16 (by decide) ?_
    exact x_iret dX14_isLetter_17 rfl rfl (Nat.le_refl _) (Nat.le_refl _) (xAsk_f (fun z => by first | exact (fa_of_lt c_3).2.1 z.1 | exact (fa_of_lt c_9).2.1 z.2))
  · refine x_iload_n dX14_isLetter_6 rfl ?_
    refine x_bipush (v := 122) dX14_isLetter_7 (by decide) ?_
    refine x_icmp_gt 16 dX14_isLetter_9 (by decide) (fun c_9 => ?_) (fun c_9 => ?_)
    · refine x_iconst (v := 0) dX14_isLetter_16 (by decide) ?_
      exact x_iret dX14_isLetter_17 rfl rfl (Nat.le_refl _) (Nat.le_refl _) (xAsk_f (fun z => by first | exact (fa_of_lt c_3).2.1 z.1 | exact (fa_of_lt c_9).2.1 z.2))
    · refine x_iconst (v := 1) dX14_isLetter_12 (by decide) ?_
      refine x_goto 17 dX14_isLetter_13 (by decide) ?_
      exact x_iret dX14_isLetter_17 rfl rfl (Nat.le_refl _) (Nat.le_refl _) (xAsk_t ⟨fa_of_nlt c_3, fa_of_nlt c_9⟩)
theorem isL_i {c : Nat} (h : c < 256) : (97 ≤ nI c ∧ nI c ≤ 122) ↔ isL c := by
  unfold isL
  rw [show (97 : Int32) = nI 97 from rfl, show (122 : Int32) = nI 122 from rfl, nI_leI (by omega) (by omega), nI_leI (by omega) (by omega)]
theorem isL_m : ¬ ((97 : Int32) ≤ -1 ∧ (-1 : Int32) ≤ 122) := by decide
theorem bA_lt {b : Nat → Nat} {n j : Nat} (h : j < n) : bA b n j = nI (b j) := if_pos h
theorem bA_ge {b : Nat → Nat} {n j : Nat} (h : n ≤ j) : bA b n j = -1 := if_neg (by omega)
set_option maxRecDepth 100000 in
set_option maxHeartbeats 4000000 in
theorem l_X14_word {G : xG} {h0 : xHp} {g0 : Nat → Int32} {nw : Value} {ar : Nat → Nat → Int32} {tw kw : Nat → Int64} {rf : Nat → Option Nat} {b : Nat → Nat} {n : Nat} (hT : tpM ar b n) {t : Tk} {p' : Nat} {st : Nat} (hlx : lxA b n st t p') {c1 : Int32} : ∀ (f m : Nat), st + m ≤ n → n + 1 ≤ st + m + f → 1 ≤ n - st → ∀ {h : xHp} {g : Nat → Int32} {w : Int64}, MH h g w nw ar tw kw rf → yfr h0 h → gSame g0 g → g 19 = nI n → g 20 = nI (st + m) → (g 22 = nI t.2.1 ∧ g 21 = 0 ∧ g 23 = 0) → (m ≤ 8 → w = lN (mw (wdL b st m))) → (∀ j, j < m → isL (b (st + j))) → (m = 0 → isL (b st)) → Wx G mX14_next (xRm 2 0 0) (xF G (fun o h' => o = .inl none ∧ yfr h0 h' ∧ ∃ g' w', MH h' (g') (w') nw ar tw kw rf ∧ gSame g0 g' ∧ curT t p' g' w') 0 0) 0 0 93 [(0, .ref 205), (1, .int c1), (2, .int (nI m))] [] h := by
  have hn4 := hT.1
  intro f
  induction f with
  | zero => exact fun m h1 h2 => absurd h2 (by omega)
  | succ f ih =>
    intro m hm hf hst h g w M hY hS h19 h20 h2x hw hl h0l
    obtain ⟨h22, h21, h23⟩ := h2x
    rcases Nat.lt_or_ge (st + m) n with hlt | hge
    · refine x_aload_n dX14_next_93 rfl ?_
      refine x_aload_n dX14_next_94 rfl ?_
      refine x_get lf_X14_107 dX14_next_95 M.o rfl ?_
      refine x_top (y := nI (st + m)) h20 ?_
      refine x_callV (As := [.int (nI (st + m))]) (st := []) lv_X14_110 (k_X14_byteAt M hT h19 (by omega)) dX14_next_98 M.o rfl rfl (Nat.le_of_ble_eq_true rfl) ⟨by decide, by decide⟩ ⟨by decide, by decide⟩ (fun v9 h9 z => ?_) (fun _ _ _ _ _ z => by cases z.1)
      rw [bA_lt (show st + m < n by omega)] at z
      obtain ⟨ev, eh⟩ := z
      rw [eh]
      cases ev
      refine x_callS (As := [.int (nI (b (st + m)))]) (st := []) ls_X14_121 k_X14_isLetter dX14_next_101 rfl rfl (Nat.le_of_ble_eq_true rfl) ⟨by decide, by decide⟩ ⟨by decide, by decide⟩ (fun v9 h9 z => ?_) (fun _ _ _ _ _ z => by obtain ⟨_, z, _⟩ := z; cases z)
      obtain ⟨b9, ev, eh, hb9⟩ := z
      rw [eh]
      cases ev
      refine x_if_eq 156 dX14_next_104 (by decide) (fun c_104 => ?_) (fun c_104 => ?_)
      · have c_104 := bi_f c_104
        have hend9 : st + m = n ∨ ¬ isL (b (st + m)) := Or.inr (fun z => by have := hb9.mpr ((isL_i (hT.2 _ (by omega)).2).mpr z); rw [this] at c_104; cases c_104)
        refine x_aload_n dX14_next_156 rfl ?_
        refine x_iload_n dX14_next_157 rfl ?_
        refine x_put (mL (upd g 24 (nI m)) w nw) lf_X14_131 dX14_next_158 M.o (Nat.le_of_ble_eq_true rfl) rfl rfl rfl ?_
        refine x_iload_n dX14_next_161 rfl ?_
        refine x_bipush (v := 8) dX14_next_162 (by decide) ?_
        refine x_icmp_gt 266 dX14_next_164 (by decide) (fun c_164 => ?_) (fun c_164 => ?_)
        · rw [show (8 : Int32) = nI 8 from rfl, nI_ltI (by omega) (by omega)] at c_164
          refine x_vret dX14_next_266 rfl (Nat.le_refl _) (Nat.le_refl _) ⟨rfl, (hY.up (by decide)), _, _, (M.g9 (upd g 24 (nI m)) w nw), (hS.up (by decide)), ?_⟩
          have hm1 : 1 ≤ m := by rcases Nat.eq_zero_or_pos m with z | z; (have := h0l z; subst z; simp only [Nat.add_zero] at hend9; rcases hend9 with y | y; omega; exact absurd this y); exact z
          obtain ⟨x1, x2⟩ := lx_wrd hlx hm1 (by omega) hl hend9
          first | (obtain ⟨y1, y2, y3⟩ := x1 (by omega); exact ⟨h22, fun z => by omega, fun z => by omega, fun _ => ⟨rfl, h23, by rw [y2]; exact hw (by omega), by rw [y2, (wd_ok hl).2]; rfl, by rw [y3]; exact h20⟩, fun z => by omega, fun z => by omega⟩) | (have y1 := x2 (by omega); exact ⟨h22, fun z => by omega, fun _ => ⟨h21, h23⟩, fun z => by omega, fun z => by omega, fun z => by omega⟩)
        · rw [show (8 : Int32) = nI 8 from rfl, nI_ltI (by omega) (by omega)] at c_164
          refine x_aload_n dX14_next_167 rfl ?_
          refine x_iconst (v := 2) dX14_next_168 (by decide) ?_
          refine x_put (mL (upd (upd g 21 2) 24 (nI m)) w nw) lf_X14_115 dX14_next_169 (xup_self _ _ _) (Nat.le_of_ble_eq_true rfl) rfl rfl rfl ?_
          refine x_goto 266 dX14_next_172 (by decide) ?_
          refine x_vret dX14_next_266 rfl (Nat.le_refl _) (Nat.le_refl _) ⟨rfl, ((hY.up (by decide)).up (by decide)), _, _, ((M.g9 (upd g 24 (nI m)) w nw).g9 (upd (upd g 21 2) 24 (nI m)) w nw), ((hS.up (by decide)).up (by decide)), ?_⟩
          have hm1 : 1 ≤ m := by rcases Nat.eq_zero_or_pos m with z | z; (have := h0l z; subst z; simp only [Nat.add_zero] at hend9; rcases hend9 with y | y; omega; exact absurd this y); exact z
          obtain ⟨x1, x2⟩ := lx_wrd hlx hm1 (by omega) hl hend9
          first | (obtain ⟨y1, y2, y3⟩ := x1 (by omega); exact ⟨h22, fun z => by omega, fun z => by omega, fun _ => ⟨rfl, h23, by rw [y2]; exact hw (by omega), by rw [y2, (wd_ok hl).2]; rfl, by rw [y3]; exact h20⟩, fun z => by omega, fun z => by omega⟩) | (have y1 := x2 (by omega); exact ⟨h22, fun z => by omega, fun _ => ⟨h21, h23⟩, fun z => by omega, fun z => by omega, fun z => by omega⟩)
      · have c_104 := bi_t c_104
        have hlet : isL (b (st + m)) := (isL_i (hT.2 _ (by omega)).2).mp (hb9.mp c_104)
        refine x_iload_n dX14_next_107 rfl ?_
        refine x_bipush (v := 8) dX14_next_108 (by decide) ?_
        refine x_icmp_ge 140 dX14_next_110 (by decide) (fun c_110 => ?_) (fun c_110 => ?_)
        · rw [show (8 : Int32) = nI 8 from rfl, nI_leI (by omega) (by omega)] at c_110
          refine x_iinc (v := nI (m + 1)) [(0, .ref 205), (1, .int c1), (2, .int (nI (m + 1)))] dX14_next_140 rfl (nI_add m 1) (by decide) rfl rfl ?_
          refine x_aload_n dX14_next_143 rfl ?_
          refine x_dup dX14_next_144 rfl ?_
          refine x_get lf_X14_107 dX14_next_145 M.o rfl ?_
          refine x_top (y := nI (st + m)) h20 ?_
          refine x_iconst (v := 1) dX14_next_148 (by decide) ?_
          refine x_iadd dX14_next_149 ?_
          refine x_top (y := nI ((st + m) + 1)) (nI_add (st + m) 1) ?_
          refine x_put (mL (upd g 20 (nI ((st + m) + 1))) w nw) lf_X14_107 dX14_next_150 M.o (Nat.le_of_ble_eq_true rfl) rfl rfl rfl ?_
          refine x_goto 93 dX14_next_153 (by decide) ?_
          exact ih (m + 1) (by omega) (by omega) hst (M.g9 (upd g 20 (nI ((st + m) + 1))) w nw) (hY.up (by decide)) (hS.up (by decide)) h19 rfl ⟨h22, h21, h23⟩ (fun z => absurd z (by omega)) (fun j hj => by by_cases e : j = m; subst e; exact hlet; exact hl j (by omega)) (fun z => by omega)
        · rw [show (8 : Int32) = nI 8 from rfl, nI_leI (by omega) (by omega)] at c_110
          refine x_aload_n dX14_next_113 rfl ?_
          refine x_ldc2 kl_X14_129 dX14_next_114 ?_
          refine x_aload_n dX14_next_117 rfl ?_
          refine x_get lf_X14_125 dX14_next_118 M.o rfl ?_
          refine x_lmul dX14_next_121 ?_
          refine x_aload_n dX14_next_122 rfl ?_
          refine x_aload_n dX14_next_123 rfl ?_
          refine x_get lf_X14_107 dX14_next_124 M.o rfl ?_
          refine x_top (y := nI (st + m)) h20 ?_
          refine x_callV (As := [.int (nI (st + m))]) (st := [.long (32 * w), .ref 205]) lv_X14_110 (k_X14_byteAt M hT h19 (by omega)) dX14_next_127 M.o rfl rfl (Nat.le_of_ble_eq_true rfl) ⟨by decide, by decide⟩ ⟨by decide, by decide⟩ (fun v9 h9 z => ?_) (fun _ _ _ _ _ z => by cases z.1)
          rw [bA_lt (show st + m < n by omega)] at z
          obtain ⟨ev, eh⟩ := z
          rw [eh]
          cases ev
          refine x_bipush (v := 97) dX14_next_130 (by decide) ?_
          refine x_isub dX14_next_132 ?_
          refine x_iconst (v := 1) dX14_next_133 (by decide) ?_
          refine x_iadd dX14_next_134 ?_
          refine x_i2l dX14_next_135 ?_
          refine x_ladd dX14_next_136 ?_
          refine x_topl (y := lN (mw (wdL b st (m + 1)))) (by rw [hw (by omega)]; exact mw_step hlet) ?_
          refine x_put (mL g (lN (mw (wdL b st (m + 1)))) nw) lf_X14_125 dX14_next_137 M.o (Nat.le_of_ble_eq_true rfl) rfl rfl rfl ?_
          refine x_iinc (v := nI (m + 1)) [(0, .ref 205), (1, .int c1), (2, .int (nI (m + 1)))] dX14_next_140 rfl (nI_add m 1) (by decide) rfl rfl ?_
          refine x_aload_n dX14_next_143 rfl ?_
          refine x_dup dX14_next_144 rfl ?_
          refine x_get lf_X14_107 dX14_next_145 (xup_self _ _ _) rfl ?_
          refine x_top (y := nI (st + m)) h20 ?_
          refine x_iconst (v := 1) dX14_next_148 (by decide) ?_
          refine x_iadd dX14_next_149 ?_
          refine x_top (y := nI ((st + m) + 1)) (nI_add (st + m) 1) ?_
          refine x_put (mL (upd g 20 (nI ((st + m) + 1))) (lN (mw (wdL b st (m + 1)))) nw) lf_X14_107 dX14_next_150 (xup_self _ _ _) (Nat.le_of_ble_eq_true rfl) rfl rfl rfl ?_
          refine x_goto 93 dX14_next_153 (by decide) ?_
          exact ih (m + 1) (by omega) (by omega) hst ((M.g9 g (lN (mw (wdL b st (m + 1)))) nw).g9 (upd g 20 (nI ((st + m) + 1))) (lN (mw (wdL b st (m + 1)))) nw) ((hY.up (by decide)).up (by decide)) (hS.up (by decide)) h19 rfl ⟨h22, h21, h23⟩ (fun _ => rfl) (fun j hj => by by_cases e : j = m; subst e; exact hlet; exact hl j (by omega)) (fun z => by omega)
    · refine x_aload_n dX14_next_93 rfl ?_
      refine x_aload_n dX14_next_94 rfl ?_
      refine x_get lf_X14_107 dX14_next_95 M.o rfl ?_
      refine x_top (y := nI (st + m)) h20 ?_
      refine x_callV (As := [.int (nI (st + m))]) (st := []) lv_X14_110 (k_X14_byteAt M hT h19 (by omega)) dX14_next_98 M.o rfl rfl (Nat.le_of_ble_eq_true rfl) ⟨by decide, by decide⟩ ⟨by decide, by decide⟩ (fun v9 h9 z => ?_) (fun _ _ _ _ _ z => by cases z.1)
      rw [bA_ge (show n ≤ st + m by omega)] at z
      obtain ⟨ev, eh⟩ := z
      rw [eh]
      cases ev
      refine x_callS (As := [.int (-1)]) (st := []) ls_X14_121 k_X14_isLetter dX14_next_101 rfl rfl (Nat.le_of_ble_eq_true rfl) ⟨by decide, by decide⟩ ⟨by decide, by decide⟩ (fun v9 h9 z => ?_) (fun _ _ _ _ _ z => by obtain ⟨_, z, _⟩ := z; cases z)
      obtain ⟨b9, ev, eh, hb9⟩ := z
      rw [eh]
      cases ev
      refine x_if_eq 156 dX14_next_104 (by decide) (fun c_104 => ?_) (fun c_104 => ?_)
      · have c_104 := bi_f c_104
        have hend9 : st + m = n ∨ ¬ isL (b (st + m)) := Or.inl (by omega)
        refine x_aload_n dX14_next_156 rfl ?_
        refine x_iload_n dX14_next_157 rfl ?_
        refine x_put (mL (upd g 24 (nI m)) w nw) lf_X14_131 dX14_next_158 M.o (Nat.le_of_ble_eq_true rfl) rfl rfl rfl ?_
        refine x_iload_n dX14_next_161 rfl ?_
        refine x_bipush (v := 8) dX14_next_162 (by decide) ?_
        refine x_icmp_gt 266 dX14_next_164 (by decide) (fun c_164 => ?_) (fun c_164 => ?_)
        · rw [show (8 : Int32) = nI 8 from rfl, nI_ltI (by omega) (by omega)] at c_164
          refine x_vret dX14_next_266 rfl (Nat.le_refl _) (Nat.le_refl _) ⟨rfl, (hY.up (by decide)), _, _, (M.g9 (upd g 24 (nI m)) w nw), (hS.up (by decide)), ?_⟩
          have hm1 : 1 ≤ m := by rcases Nat.eq_zero_or_pos m with z | z; (have := h0l z; subst z; simp only [Nat.add_zero] at hend9; rcases hend9 with y | y; omega; exact absurd this y); exact z
          obtain ⟨x1, x2⟩ := lx_wrd hlx hm1 (by omega) hl hend9
          first | (obtain ⟨y1, y2, y3⟩ := x1 (by omega); exact ⟨h22, fun z => by omega, fun z => by omega, fun _ => ⟨rfl, h23, by rw [y2]; exact hw (by omega), by rw [y2, (wd_ok hl).2]; rfl, by rw [y3]; exact h20⟩, fun z => by omega, fun z => by omega⟩) | (have y1 := x2 (by omega); exact ⟨h22, fun z => by omega, fun _ => ⟨h21, h23⟩, fun z => by omega, fun z => by omega, fun z => by omega⟩)
        · rw [show (8 : Int32) = nI 8 from rfl, nI_ltI (by omega) (by omega)] at c_164
          refine x_aload_n dX14_next_167 rfl ?_
          refine x_iconst (v := 2) dX14_next_168 (by decide) ?_
          refine x_put (mL (upd (upd g 21 2) 24 (nI m)) w nw) lf_X14_115 dX14_next_169 (xup_self _ _ _) (Nat.le_of_ble_eq_true rfl) rfl rfl rfl ?_
          refine x_goto 266 dX14_next_172 (by decide) ?_
          refine x_vret dX14_next_266 rfl (Nat.le_refl _) (Nat.le_refl _) ⟨rfl, ((hY.up (by decide)).up (by decide)), _, _, ((M.g9 (upd g 24 (nI m)) w nw).g9 (upd (upd g 21 2) 24 (nI m)) w nw), ((hS.up (by decide)).up (by decide)), ?_⟩
          have hm1 : 1 ≤ m := by rcases Nat.eq_zero_or_pos m with z | z; (have := h0l z; subst z; simp only [Nat.add_zero] at hend9; rcases hend9 with y | y; omega; exact absurd this y); exact z
          obtain ⟨x1, x2⟩ := lx_wrd hlx hm1 (by omega) hl hend9
          first | (obtain ⟨y1, y2, y3⟩ := x1 (by omega); exact ⟨h22, fun z => by omega, fun z => by omega, fun _ => ⟨rfl, h23, by rw [y2]; exact hw (by omega), by rw [y2, (wd_ok hl).2]; rfl, by rw [y3]; exact h20⟩, fun z => by omega, fun z => by omega⟩) | (have y1 := x2 (by omega); exact ⟨h22, fun z => by omega, fun _ => ⟨h21, h23⟩, fun z => by omega, fun z => by omega, fun z => by omega⟩)
      · have c_104 := bi_t c_104
        exact absurd (hb9.mp c_104) isL_m
set_option maxRecDepth 100000 in
set_option maxHeartbeats 4000000 in
theorem l_X14_next {G : xG} {h0 : xHp} {g0 : Nat → Int32} {nw : Value} {ar : Nat → Nat → Int32} {tw kw : Nat → Int64} {rf : Nat → Option Nat} {b : Nat → Nat} {n : Nat} (hT : tpM ar b n) {t : Tk} {p' : Nat} {st : Nat} (hst : st = t.2.1) (hsn : st ≤ n) (hlx : lxA b n st t p') {h : xHp} {g : Nat → Int32} {w : Int64} (M : MH h g w nw ar tw kw rf) (hY : yfr h0 h) (hS : gSame g0 g) (h19 : g 19 = nI n) (h20 : g 20 = nI st) : Wx G mX14_next (xRm 2 0 0) (xF G (fun o h' => o = .inl none ∧ yfr h0 h' ∧ ∃ g' w', MH h' (g') (w') nw ar tw kw rf ∧ gSame g0 g' ∧ curT t p' g' w') 0 0) 0 0 39 [(0, .ref 205)] [] h := by
  have hn4 := hT.1
  rcases Nat.lt_or_ge st n with hlt | hge
  · refine x_aload_n dX14_next_39 rfl ?_
    refine x_aload_n dX14_next_40 rfl ?_
    refine x_get lf_X14_107 dX14_next_41 M.o rfl ?_
    refine x_top (y := nI st) h20 ?_
    refine x_put (mL (upd g 22 (nI st)) w nw) lf_X14_114 dX14_next_44 M.o (Nat.le_of_ble_eq_true rfl) rfl rfl rfl ?_
    refine x_aload_n dX14_next_47 rfl ?_
    refine x_iconst (v := 0) dX14_next_48 (by decide) ?_
    refine x_put (mL (upd (upd g 21 0) 22 (nI st)) w nw) lf_X14_115 dX14_next_49 (xup_self _ _ _) (Nat.le_of_ble_eq_true rfl) rfl rfl rfl ?_
    refine x_aload_n dX14_next_52 rfl ?_
    refine x_iconst (v := 0) dX14_next_53 (by decide) ?_
    refine x_put (mL (upd (upd (upd g 21 0) 22 (nI st)) 23 0) w nw) lf_X14_118 dX14_next_54 (xup_self _ _ _) (Nat.le_of_ble_eq_true rfl) rfl rfl rfl ?_
    refine x_aload_n dX14_next_57 rfl ?_
    refine x_aload_n dX14_next_58 rfl ?_
    refine x_get lf_X14_107 dX14_next_59 (xup_self _ _ _) rfl ?_
    refine x_top (y := nI st) h20 ?_
    refine x_callV (As := [.int (nI st)]) (st := []) lv_X14_110 (k_X14_byteAt ((((M.g9 (upd g 22 (nI st)) w nw).g9 (upd (upd g 21 0) 22 (nI st)) w nw).g9 (upd (upd (upd g 21 0) 22 (nI st)) 23 0) w nw)) hT h19 (by omega)) dX14_next_62 (xup_self _ _ _) rfl rfl (Nat.le_of_ble_eq_true rfl) ⟨by decide, by decide⟩ ⟨by decide, by decide⟩ (fun v9 h9 z => ?_) (fun _ _ _ _ _ z => by cases z.1)
    rw [bA_lt (show st < n by omega)] at z
    obtain ⟨ev, eh⟩ := z
    rw [eh]
    cases ev
    refine x_istore_n [(0, .ref 205), (1, .int (nI (b st)))] dX14_next_65 (by decide) rfl rfl ?_
    refine x_iconst (v := 0) dX14_next_66 (by decide) ?_
    refine x_istore_n [(0, .ref 205), (1, .int (nI (b st))), (2, .int 0)] dX14_next_67 (by decide) rfl rfl ?_
    refine x_iload_n dX14_next_68 rfl ?_
    refine x_iconst (v := (-1)) dX14_next_69 (by decide) ?_
    refine x_icmp_ne 81 dX14_next_70 (by decide) (fun c_70 => ?_) (fun c_70 => absurd c_70 (nI_m1 (by have := (hT.2 st (by omega)).2; omega)))
    have hb256 := (hT.2 st (by omega)).2
    refine x_iload_n dX14_next_81 rfl ?_
    refine x_callS (As := [.int (nI (b st))]) (st := []) ls_X14_121 k_X14_isLetter dX14_next_82 rfl rfl (Nat.le_of_ble_eq_true rfl) ⟨by decide, by decide⟩ ⟨by decide, by decide⟩ (fun v9 h9 z => ?_) (fun _ _ _ _ _ z => by obtain ⟨_, z, _⟩ := z; cases z)
    obtain ⟨b9, ev, eh, hb9⟩ := z
    rw [eh]
    cases ev
    refine x_if_eq 175 dX14_next_85 (by decide) (fun c_85 => ?_) (fun c_85 => ?_)
    · have c_85 := bi_f c_85
      have hnl : ¬ isL (b st) := fun z => by have := hb9.mpr ((isL_i hb256).mpr z); rw [this] at c_85; cases c_85
      refine x_iload_n dX14_next_175 rfl ?_
      refine x_bipush (v := 65) dX14_next_176 (by decide) ?_
      refine x_icmp_lt 210 dX14_next_178 (by decide) (fun c_178 => ?_) (fun c_178 => ?_)
      · rw [show (65 : Int32) = nI 65 from rfl, nI_ltI (by omega) (by omega)] at c_178
        refine x_iload_n dX14_next_210 rfl ?_
        refine x_bipush (v := 40) dX14_next_211 (by decide) ?_
        refine x_icmp_eq 246 dX14_next_213 (by decide) (fun c_213 => ?_) (fun c_213 => ?_)
        · rw [show (40 : Int32) = nI 40 from rfl, nI_eq (by omega) (by omega)] at c_213
          refine x_aload_n dX14_next_246 rfl ?_
          refine x_iconst (v := 4) dX14_next_247 (by decide) ?_
          refine x_put (mL (upd (upd (upd g 21 4) 22 (nI st)) 23 0) w nw) lf_X14_115 dX14_next_248 (xup_self _ _ _) (Nat.le_of_ble_eq_true rfl) rfl rfl rfl ?_
          refine x_aload_n dX14_next_251 rfl ?_
          refine x_iload_n dX14_next_252 rfl ?_
          refine x_put (mL (upd (upd (upd g 21 4) 22 (nI st)) 23 (nI (b st))) w nw) lf_X14_118 dX14_next_253 (xup_self _ _ _) (Nat.le_of_ble_eq_true rfl) rfl rfl rfl ?_
          refine x_aload_n dX14_next_256 rfl ?_
          refine x_dup dX14_next_257 rfl ?_
          refine x_get lf_X14_107 dX14_next_258 (xup_self _ _ _) rfl ?_
          refine x_top (y := nI st) h20 ?_
          refine x_iconst (v := 1) dX14_next_261 (by decide) ?_
          refine x_iadd dX14_next_262 ?_
          refine x_top (y := nI (st + 1)) (nI_add st 1) ?_
          refine x_put (mL (upd (upd (upd (upd g 20 (nI (st + 1))) 21 4) 22 (nI st)) 23 (nI (b st))) w nw) lf_X14_107 dX14_next_263 (xup_self _ _ _) (Nat.le_of_ble_eq_true rfl) rfl rfl rfl ?_
          refine x_vret dX14_next_266 rfl (Nat.le_refl _) (Nat.le_refl _) ⟨rfl, ((((((hY.up (by decide)).up (by decide)).up (by decide)).up (by decide)).up (by decide)).up (by decide)), _, _, ((((((M.g9 (upd g 22 (nI st)) w nw).g9 (upd (upd g 21 0) 22 (nI st)) w nw).g9 (upd (upd (upd g 21 0) 22 (nI st)) 23 0) w nw).g9 (upd (upd (upd g 21 4) 22 (nI st)) 23 0) w nw).g9 (upd (upd (upd g 21 4) 22 (nI st)) 23 (nI (b st))) w nw).g9 (upd (upd (upd (upd g 20 (nI (st + 1))) 21 4) 22 (nI st)) 23 (nI (b st))) w nw), ((((hS.up (by decide)).up (by decide)).up (by decide)).up (by decide)), ?_⟩
          obtain ⟨y1, y2⟩ := lx_mrk hlx (by omega) (by unfold isM; omega)
          have y4 : 4 ≤ t.1 := by omega
          exact ⟨by rw [← hst]; rfl, fun z => by omega, fun z => by omega, fun z => by omega, fun z => by omega, fun _ => ⟨rfl, by rw [y1]; rfl, by rw [y2]; rfl⟩⟩
        · rw [show (40 : Int32) = nI 40 from rfl, nI_eq (by omega) (by omega)] at c_213
          refine x_iload_n dX14_next_216 rfl ?_
          refine x_bipush (v := 41) dX14_next_217 (by decide) ?_
          refine x_icmp_eq 246 dX14_next_219 (by decide) (fun c_219 => ?_) (fun c_219 => ?_)
          · rw [show (41 : Int32) = nI 41 from rfl, nI_eq (by omega) (by omega)] at c_219
            refine x_aload_n dX14_next_246 rfl ?_
            refine x_iconst (v := 4) dX14_next_247 (by decide) ?_
            refine x_put (mL (upd (upd (upd g 21 4) 22 (nI st)) 23 0) w nw) lf_X14_115 dX14_next_248 (xup_self _ _ _) (Nat.le_of_ble_eq_true rfl) rfl rfl rfl ?_
            refine x_aload_n dX14_next_251 rfl ?_
            refine x_iload_n dX14_next_252 rfl ?_
            refine x_put (mL (upd (upd (upd g 21 4) 22 (nI st)) 23 (nI (b st))) w nw) lf_X14_118 dX14_next_253 (xup_self _ _ _) (Nat.le_of_ble_eq_true rfl) rfl rfl rfl ?_
            refine x_aload_n dX14_next_256 rfl ?_
            refine x_dup dX14_next_257 rfl ?_
            refine x_get lf_X14_107 dX14_next_258 (xup_self _ _ _) rfl ?_
            refine x_top (y := nI st) h20 ?_
            refine x_iconst (v := 1) dX14_next_261 (by decide) ?_
            refine x_iadd dX14_next_262 ?_
            refine x_top (y := nI (st + 1)) (nI_add st 1) ?_
            refine x_put (mL (upd (upd (upd (upd g 20 (nI (st + 1))) 21 4) 22 (nI st)) 23 (nI (b st))) w nw) lf_X14_107 dX14_next_263 (xup_self _ _ _) (Nat.le_of_ble_eq_true rfl) rfl rfl rfl ?_
            refine x_vret dX14_next_266 rfl (Nat.le_refl _) (Nat.le_refl _) ⟨rfl, ((((((hY.up (by decide)).up (by decide)).up (by decide)).up (by decide)).up (by decide)).up (by decide)), _, _, ((((((M.g9 (upd g 22 (nI st)) w nw).g9 (upd (upd g 21 0) 22 (nI st)) w nw).g9 (upd (upd (upd g 21 0) 22 (nI st)) 23 0) w nw).g9 (upd (upd (upd g 21 4) 22 (nI st)) 23 0) w nw).g9 (upd (upd (upd g 21 4) 22 (nI st)) 23 (nI (b st))) w nw).g9 (upd (upd (upd (upd g 20 (nI (st + 1))) 21 4) 22 (nI st)) 23 (nI (b st))) w nw), ((((hS.up (by decide)).up (by decide)).up (by decide)).up (by decide)), ?_⟩
            obtain ⟨y1, y2⟩ := lx_mrk hlx (by omega) (by unfold isM; omega)
            have y4 : 4 ≤ t.1 := by omega
            exact ⟨by rw [← hst]; rfl, fun z => by omega, fun z => by omega, fun z => by omega, fun z => by omega, fun _ => ⟨rfl, by rw [y1]; rfl, by rw [y2]; rfl⟩⟩
          · rw [show (41 : Int32) = nI 41 from rfl, nI_eq (by omega) (by omega)] at c_219
            refine x_iload_n dX14_next_222 rfl ?_
            refine x_bipush (v := 44) dX14_next_223 (by decide) ?_
            refine x_icmp_eq 246 dX14_next_225 (by decide) (fun c_225 => ?_) (fun c_225 => ?_)
            · rw [show (44 : Int32) = nI 44 from rfl, nI_eq (by omega) (by omega)] at c_225
              refine x_aload_n dX14_next_246 rfl ?_
              refine x_iconst (v := 4) dX14_next_247 (by decide) ?_
              refine x_put (mL (upd (upd (upd g 21 4) 22 (nI st)) 23 0) w nw) lf_X14_115 dX14_next_248 (xup_self _ _ _) (Nat.le_of_ble_eq_true rfl) rfl rfl rfl ?_
              refine x_aload_n dX14_next_251 rfl ?_
              refine x_iload_n dX14_next_252 rfl ?_
              refine x_put (mL (upd (upd (upd g 21 4) 22 (nI st)) 23 (nI (b st))) w nw) lf_X14_118 dX14_next_253 (xup_self _ _ _) (Nat.le_of_ble_eq_true rfl) rfl rfl rfl ?_
              refine x_aload_n dX14_next_256 rfl ?_
              refine x_dup dX14_next_257 rfl ?_
              refine x_get lf_X14_107 dX14_next_258 (xup_self _ _ _) rfl ?_
              refine x_top (y := nI st) h20 ?_
              refine x_iconst (v := 1) dX14_next_261 (by decide) ?_
              refine x_iadd dX14_next_262 ?_
              refine x_top (y := nI (st + 1)) (nI_add st 1) ?_
              refine x_put (mL (upd (upd (upd (upd g 20 (nI (st + 1))) 21 4) 22 (nI st)) 23 (nI (b st))) w nw) lf_X14_107 dX14_next_263 (xup_self _ _ _) (Nat.le_of_ble_eq_true rfl) rfl rfl rfl ?_
              refine x_vret dX14_next_266 rfl (Nat.le_refl _) (Nat.le_refl _) ⟨rfl, ((((((hY.up (by decide)).up (by decide)).up (by decide)).up (by decide)).up (by decide)).up (by decide)), _, _, ((((((M.g9 (upd g 22 (nI st)) w nw).g9 (upd (upd g 21 0) 22 (nI st)) w nw).g9 (upd (upd (upd g 21 0) 22 (nI st)) 23 0) w nw).g9 (upd (upd (upd g 21 4) 22 (nI st)) 23 0) w nw).g9 (upd (upd (upd g 21 4) 22 (nI st)) 23 (nI (b st))) w nw).g9 (upd (upd (upd (upd g 20 (nI (st + 1))) 21 4) 22 (nI st)) 23 (nI (b st))) w nw), ((((hS.up (by decide)).up (by decide)).up (by decide)).up (by decide)), ?_⟩
              obtain ⟨y1, y2⟩ := lx_mrk hlx (by omega) (by unfold isM; omega)
              have y4 : 4 ≤ t.1 := by omega
              exact ⟨by rw [← hst]; rfl, fun z => by omega, fun z => by omega, fun z => by omega, fun z => by omega, fun _ => ⟨rfl, by rw [y1]; rfl, by rw [y2]; rfl⟩⟩
            · rw [show (44 : Int32) = nI 44 from rfl, nI_eq (by omega) (by omega)] at c_225
              refine x_iload_n dX14_next_228 rfl ?_
              refine x_bipush (v := 46) dX14_next_229 (by decide) ?_
              refine x_icmp_eq 246 dX14_next_231 (by decide) (fun c_231 => ?_) (fun c_231 => ?_)
              · rw [show (46 : Int32) = nI 46 from rfl, nI_eq (by omega) (by omega)] at c_231
                refine x_aload_n dX14_next_246 rfl ?_
                refine x_iconst (v := 4) dX14_next_247 (by decide) ?_
                refine x_put (mL (upd (upd (upd g 21 4) 22 (nI st)) 23 0) w nw) lf_X14_115 dX14_next_248 (xup_self _ _ _) (Nat.le_of_ble_eq_true rfl) rfl rfl rfl ?_
                refine x_aload_n dX14_next_251 rfl ?_
                refine x_iload_n dX14_next_252 rfl ?_
                refine x_put (mL (upd (upd (upd g 21 4) 22 (nI st)) 23 (nI (b st))) w nw) lf_X14_118 dX14_next_253 (xup_self _ _ _) (Nat.le_of_ble_eq_true rfl) rfl rfl rfl ?_
                refine x_aload_n dX14_next_256 rfl ?_
                refine x_dup dX14_next_257 rfl ?_
                refine x_get lf_X14_107 dX14_next_258 (xup_self _ _ _) rfl ?_
                refine x_top (y := nI st) h20 ?_
                refine x_iconst (v := 1) dX14_next_261 (by decide) ?_
                refine x_iadd dX14_next_262 ?_
                refine x_top (y := nI (st + 1)) (nI_add st 1) ?_
                refine x_put (mL (upd (upd (upd (upd g 20 (nI (st + 1))) 21 4) 22 (nI st)) 23 (nI (b st))) w nw) lf_X14_107 dX14_next_263 (xup_self _ _ _) (Nat.le_of_ble_eq_true rfl) rfl rfl rfl ?_
                refine x_vret dX14_next_266 rfl (Nat.le_refl _) (Nat.le_refl _) ⟨rfl, ((((((hY.up (by decide)).up (by decide)).up (by decide)).up (by decide)).up (by decide)).up (by decide)), _, _, ((((((M.g9 (upd g 22 (nI st)) w nw).g9 (upd (upd g 21 0) 22 (nI st)) w nw).g9 (upd (upd (upd g 21 0) 22 (nI st)) 23 0) w nw).g9 (upd (upd (upd g 21 4) 22 (nI st)) 23 0) w nw).g9 (upd (upd (upd g 21 4) 22 (nI st)) 23 (nI (b st))) w nw).g9 (upd (upd (upd (upd g 20 (nI (st + 1))) 21 4) 22 (nI st)) 23 (nI (b st))) w nw), ((((hS.up (by decide)).up (by decide)).up (by decide)).up (by decide)), ?_⟩
                obtain ⟨y1, y2⟩ := lx_mrk hlx (by omega) (by unfold isM; omega)
                have y4 : 4 ≤ t.1 := by omega
                exact ⟨by rw [← hst]; rfl, fun z => by omega, fun z => by omega, fun z => by omega, fun z => by omega, fun _ => ⟨rfl, by rw [y1]; rfl, by rw [y2]; rfl⟩⟩
              · rw [show (46 : Int32) = nI 46 from rfl, nI_eq (by omega) (by omega)] at c_231
                refine x_iload_n dX14_next_234 rfl ?_
                refine x_bipush (v := 58) dX14_next_235 (by decide) ?_
                refine x_icmp_eq 246 dX14_next_237 (by decide) (fun c_237 => ?_) (fun c_237 => ?_)
                · rw [show (58 : Int32) = nI 58 from rfl, nI_eq (by omega) (by omega)] at c_237
                  refine x_aload_n dX14_next_246 rfl ?_
                  refine x_iconst (v := 4) dX14_next_247 (by decide) ?_
                  refine x_put (mL (upd (upd (upd g 21 4) 22 (nI st)) 23 0) w nw) lf_X14_115 dX14_next_248 (xup_self _ _ _) (Nat.le_of_ble_eq_true rfl) rfl rfl rfl ?_
                  refine x_aload_n dX14_next_251 rfl ?_
                  refine x_iload_n dX14_next_252 rfl ?_
                  refine x_put (mL (upd (upd (upd g 21 4) 22 (nI st)) 23 (nI (b st))) w nw) lf_X14_118 dX14_next_253 (xup_self _ _ _) (Nat.le_of_ble_eq_true rfl) rfl rfl rfl ?_
                  refine x_aload_n dX14_next_256 rfl ?_
                  refine x_dup dX14_next_257 rfl ?_
                  refine x_get lf_X14_107 dX14_next_258 (xup_self _ _ _) rfl ?_
                  refine x_top (y := nI st) h20 ?_
                  refine x_iconst (v := 1) dX14_next_261 (by decide) ?_
                  refine x_iadd dX14_next_262 ?_
                  refine x_top (y := nI (st + 1)) (nI_add st 1) ?_
                  refine x_put (mL (upd (upd (upd (upd g 20 (nI (st + 1))) 21 4) 22 (nI st)) 23 (nI (b st))) w nw) lf_X14_107 dX14_next_263 (xup_self _ _ _) (Nat.le_of_ble_eq_true rfl) rfl rfl rfl ?_
                  refine x_vret dX14_next_266 rfl (Nat.le_refl _) (Nat.le_refl _) ⟨rfl, ((((((hY.up (by decide)).up (by decide)).up (by decide)).up (by decide)).up (by decide)).up (by decide)), _, _, ((((((M.g9 (upd g 22 (nI st)) w nw).g9 (upd (upd g 21 0) 22 (nI st)) w nw).g9 (upd (upd (upd g 21 0) 22 (nI st)) 23 0) w nw).g9 (upd (upd (upd g 21 4) 22 (nI st)) 23 0) w nw).g9 (upd (upd (upd g 21 4) 22 (nI st)) 23 (nI (b st))) w nw).g9 (upd (upd (upd (upd g 20 (nI (st + 1))) 21 4) 22 (nI st)) 23 (nI (b st))) w nw), ((((hS.up (by decide)).up (by decide)).up (by decide)).up (by decide)), ?_⟩
                  obtain ⟨y1, y2⟩ := lx_mrk hlx (by omega) (by unfold isM; omega)
                  have y4 : 4 ≤ t.1 := by omega
                  exact ⟨by rw [← hst]; rfl, fun z => by omega, fun z => by omega, fun z => by omega, fun z => by omega, fun _ => ⟨rfl, by rw [y1]; rfl, by rw [y2]; rfl⟩⟩
                · rw [show (58 : Int32) = nI 58 from rfl, nI_eq (by omega) (by omega)] at c_237
                  refine x_iload_n dX14_next_240 rfl ?_
                  refine x_bipush (v := 35) dX14_next_241 (by decide) ?_
                  refine x_icmp_ne 266 dX14_next_243 (by decide) (fun c_243 => ?_) (fun c_243 => ?_)
                  · rw [show (35 : Int32) = nI 35 from rfl, nI_eq (by omega) (by omega)] at c_243
                    refine x_vret dX14_next_266 rfl (Nat.le_refl _) (Nat.le_refl _) ⟨rfl, (((hY.up (by decide)).up (by decide)).up (by decide)), _, _, (((M.g9 (upd g 22 (nI st)) w nw).g9 (upd (upd g 21 0) 22 (nI st)) w nw).g9 (upd (upd (upd g 21 0) 22 (nI st)) 23 0) w nw), (((hS.up (by decide)).up (by decide)).up (by decide)), ?_⟩
                    have y := lx_bad hlx (by omega) hnl (by unfold isS; omega) (by unfold isM; omega)
                    exact ⟨by rw [← hst]; rfl, fun z => by omega, fun _ => ⟨rfl, rfl⟩, fun z => by omega, fun z => by omega, fun z => by omega⟩
                  · rw [show (35 : Int32) = nI 35 from rfl, nI_eq (by omega) (by omega)] at c_243
                    refine x_aload_n dX14_next_246 rfl ?_
                    refine x_iconst (v := 4) dX14_next_247 (by decide) ?_
                    refine x_put (mL (upd (upd (upd g 21 4) 22 (nI st)) 23 0) w nw) lf_X14_115 dX14_next_248 (xup_self _ _ _) (Nat.le_of_ble_eq_true rfl) rfl rfl rfl ?_
                    refine x_aload_n dX14_next_251 rfl ?_
                    refine x_iload_n dX14_next_252 rfl ?_
                    refine x_put (mL (upd (upd (upd g 21 4) 22 (nI st)) 23 (nI (b st))) w nw) lf_X14_118 dX14_next_253 (xup_self _ _ _) (Nat.le_of_ble_eq_true rfl) rfl rfl rfl ?_
                    refine x_aload_n dX14_next_256 rfl ?_
                    refine x_dup dX14_next_257 rfl ?_
                    refine x_get lf_X14_107 dX14_next_258 (xup_self _ _ _) rfl ?_
                    refine x_top (y := nI st) h20 ?_
                    refine x_iconst (v := 1) dX14_next_261 (by decide) ?_
                    refine x_iadd dX14_next_262 ?_
                    refine x_top (y := nI (st + 1)) (nI_add st 1) ?_
                    refine x_put (mL (upd (upd (upd (upd g 20 (nI (st + 1))) 21 4) 22 (nI st)) 23 (nI (b st))) w nw) lf_X14_107 dX14_next_263 (xup_self _ _ _) (Nat.le_of_ble_eq_true rfl) rfl rfl rfl ?_
                    refine x_vret dX14_next_266 rfl (Nat.le_refl _) (Nat.le_refl _) ⟨rfl, ((((((hY.up (by decide)).up (by decide)).up (by decide)).up (by decide)).up (by decide)).up (by decide)), _, _, ((((((M.g9 (upd g 22 (nI st)) w nw).g9 (upd (upd g 21 0) 22 (nI st)) w nw).g9 (upd (upd (upd g 21 0) 22 (nI st)) 23 0) w nw).g9 (upd (upd (upd g 21 4) 22 (nI st)) 23 0) w nw).g9 (upd (upd (upd g 21 4) 22 (nI st)) 23 (nI (b st))) w nw).g9 (upd (upd (upd (upd g 20 (nI (st + 1))) 21 4) 22 (nI st)) 23 (nI (b st))) w nw), ((((hS.up (by decide)).up (by decide)).up (by decide)).up (by decide)), ?_⟩
                    obtain ⟨y1, y2⟩ := lx_mrk hlx (by omega) (by unfold isM; omega)
                    have y4 : 4 ≤ t.1 := by omega
                    exact ⟨by rw [← hst]; rfl, fun z => by omega, fun z => by omega, fun z => by omega, fun z => by omega, fun _ => ⟨rfl, by rw [y1]; rfl, by rw [y2]; rfl⟩⟩
      · rw [show (65 : Int32) = nI 65 from rfl, nI_ltI (by omega) (by omega)] at c_178
        refine x_iload_n dX14_next_181 rfl ?_
        refine x_bipush (v := 72) dX14_next_182 (by decide) ?_
        refine x_icmp_gt 210 dX14_next_184 (by decide) (fun c_184 => ?_) (fun c_184 => ?_)
        · rw [show (72 : Int32) = nI 72 from rfl, nI_ltI (by omega) (by omega)] at c_184
          refine x_iload_n dX14_next_210 rfl ?_
          refine x_bipush (v := 40) dX14_next_211 (by decide) ?_
          refine x_icmp_eq 246 dX14_next_213 (by decide) (fun c_213 => ?_) (fun c_213 => ?_)
          · rw [show (40 : Int32) = nI 40 from rfl, nI_eq (by omega) (by omega)] at c_213
            refine x_aload_n dX14_next_246 rfl ?_
            refine x_iconst (v := 4) dX14_next_247 (by decide) ?_
            refine x_put (mL (upd (upd (upd g 21 4) 22 (nI st)) 23 0) w nw) lf_X14_115 dX14_next_248 (xup_self _ _ _) (Nat.le_of_ble_eq_true rfl) rfl rfl rfl ?_
            refine x_aload_n dX14_next_251 rfl ?_
            refine x_iload_n dX14_next_252 rfl ?_
            refine x_put (mL (upd (upd (upd g 21 4) 22 (nI st)) 23 (nI (b st))) w nw) lf_X14_118 dX14_next_253 (xup_self _ _ _) (Nat.le_of_ble_eq_true rfl) rfl rfl rfl ?_
            refine x_aload_n dX14_next_256 rfl ?_
            refine x_dup dX14_next_257 rfl ?_
            refine x_get lf_X14_107 dX14_next_258 (xup_self _ _ _) rfl ?_
            refine x_top (y := nI st) h20 ?_
            refine x_iconst (v := 1) dX14_next_261 (by decide) ?_
            refine x_iadd dX14_next_262 ?_
            refine x_top (y := nI (st + 1)) (nI_add st 1) ?_
            refine x_put (mL (upd (upd (upd (upd g 20 (nI (st + 1))) 21 4) 22 (nI st)) 23 (nI (b st))) w nw) lf_X14_107 dX14_next_263 (xup_self _ _ _) (Nat.le_of_ble_eq_true rfl) rfl rfl rfl ?_
            refine x_vret dX14_next_266 rfl (Nat.le_refl _) (Nat.le_refl _) ⟨rfl, ((((((hY.up (by decide)).up (by decide)).up (by decide)).up (by decide)).up (by decide)).up (by decide)), _, _, ((((((M.g9 (upd g 22 (nI st)) w nw).g9 (upd (upd g 21 0) 22 (nI st)) w nw).g9 (upd (upd (upd g 21 0) 22 (nI st)) 23 0) w nw).g9 (upd (upd (upd g 21 4) 22 (nI st)) 23 0) w nw).g9 (upd (upd (upd g 21 4) 22 (nI st)) 23 (nI (b st))) w nw).g9 (upd (upd (upd (upd g 20 (nI (st + 1))) 21 4) 22 (nI st)) 23 (nI (b st))) w nw), ((((hS.up (by decide)).up (by decide)).up (by decide)).up (by decide)), ?_⟩
            obtain ⟨y1, y2⟩ := lx_mrk hlx (by omega) (by unfold isM; omega)
            have y4 : 4 ≤ t.1 := by omega
            exact ⟨by rw [← hst]; rfl, fun z => by omega, fun z => by omega, fun z => by omega, fun z => by omega, fun _ => ⟨rfl, by rw [y1]; rfl, by rw [y2]; rfl⟩⟩
          · rw [show (40 : Int32) = nI 40 from rfl, nI_eq (by omega) (by omega)] at c_213
            refine x_iload_n dX14_next_216 rfl ?_
            refine x_bipush (v := 41) dX14_next_217 (by decide) ?_
            refine x_icmp_eq 246 dX14_next_219 (by decide) (fun c_219 => ?_) (fun c_219 => ?_)
            · rw [show (41 : Int32) = nI 41 from rfl, nI_eq (by omega) (by omega)] at c_219
              refine x_aload_n dX14_next_246 rfl ?_
              refine x_iconst (v := 4) dX14_next_247 (by decide) ?_
              refine x_put (mL (upd (upd (upd g 21 4) 22 (nI st)) 23 0) w nw) lf_X14_115 dX14_next_248 (xup_self _ _ _) (Nat.le_of_ble_eq_true rfl) rfl rfl rfl ?_
              refine x_aload_n dX14_next_251 rfl ?_
              refine x_iload_n dX14_next_252 rfl ?_
              refine x_put (mL (upd (upd (upd g 21 4) 22 (nI st)) 23 (nI (b st))) w nw) lf_X14_118 dX14_next_253 (xup_self _ _ _) (Nat.le_of_ble_eq_true rfl) rfl rfl rfl ?_
              refine x_aload_n dX14_next_256 rfl ?_
              refine x_dup dX14_next_257 rfl ?_
              refine x_get lf_X14_107 dX14_next_258 (xup_self _ _ _) rfl ?_
              refine x_top (y := nI st) h20 ?_
              refine x_iconst (v := 1) dX14_next_261 (by decide) ?_
              refine x_iadd dX14_next_262 ?_
              refine x_top (y := nI (st + 1)) (nI_add st 1) ?_
              refine x_put (mL (upd (upd (upd (upd g 20 (nI (st + 1))) 21 4) 22 (nI st)) 23 (nI (b st))) w nw) lf_X14_107 dX14_next_263 (xup_self _ _ _) (Nat.le_of_ble_eq_true rfl) rfl rfl rfl ?_
              refine x_vret dX14_next_266 rfl (Nat.le_refl _) (Nat.le_refl _) ⟨rfl, ((((((hY.up (by decide)).up (by decide)).up (by decide)).up (by decide)).up (by decide)).up (by decide)), _, _, ((((((M.g9 (upd g 22 (nI st)) w nw).g9 (upd (upd g 21 0) 22 (nI st)) w nw).g9 (upd (upd (upd g 21 0) 22 (nI st)) 23 0) w nw).g9 (upd (upd (upd g 21 4) 22 (nI st)) 23 0) w nw).g9 (upd (upd (upd g 21 4) 22 (nI st)) 23 (nI (b st))) w nw).g9 (upd (upd (upd (upd g 20 (nI (st + 1))) 21 4) 22 (nI st)) 23 (nI (b st))) w nw), ((((hS.up (by decide)).up (by decide)).up (by decide)).up (by decide)), ?_⟩
              obtain ⟨y1, y2⟩ := lx_mrk hlx (by omega) (by unfold isM; omega)
              have y4 : 4 ≤ t.1 := by omega
              exact ⟨by rw [← hst]; rfl, fun z => by omega, fun z => by omega, fun z => by omega, fun z => by omega, fun _ => ⟨rfl, by rw [y1]; rfl, by rw [y2]; rfl⟩⟩
            · rw [show (41 : Int32) = nI 41 from rfl, nI_eq (by omega) (by omega)] at c_219
              refine x_iload_n dX14_next_222 rfl ?_
              refine x_bipush (v := 44) dX14_next_223 (by decide) ?_
              refine x_icmp_eq 246 dX14_next_225 (by decide) (fun c_225 => ?_) (fun c_225 => ?_)
              · rw [show (44 : Int32) = nI 44 from rfl, nI_eq (by omega) (by omega)] at c_225
                refine x_aload_n dX14_next_246 rfl ?_
                refine x_iconst (v := 4) dX14_next_247 (by decide) ?_
                refine x_put (mL (upd (upd (upd g 21 4) 22 (nI st)) 23 0) w nw) lf_X14_115 dX14_next_248 (xup_self _ _ _) (Nat.le_of_ble_eq_true rfl) rfl rfl rfl ?_
                refine x_aload_n dX14_next_251 rfl ?_
                refine x_iload_n dX14_next_252 rfl ?_
                refine x_put (mL (upd (upd (upd g 21 4) 22 (nI st)) 23 (nI (b st))) w nw) lf_X14_118 dX14_next_253 (xup_self _ _ _) (Nat.le_of_ble_eq_true rfl) rfl rfl rfl ?_
                refine x_aload_n dX14_next_256 rfl ?_
                refine x_dup dX14_next_257 rfl ?_
                refine x_get lf_X14_107 dX14_next_258 (xup_self _ _ _) rfl ?_
                refine x_top (y := nI st) h20 ?_
                refine x_iconst (v := 1) dX14_next_261 (by decide) ?_
                refine x_iadd dX14_next_262 ?_
                refine x_top (y := nI (st + 1)) (nI_add st 1) ?_
                refine x_put (mL (upd (upd (upd (upd g 20 (nI (st + 1))) 21 4) 22 (nI st)) 23 (nI (b st))) w nw) lf_X14_107 dX14_next_263 (xup_self _ _ _) (Nat.le_of_ble_eq_true rfl) rfl rfl rfl ?_
                refine x_vret dX14_next_266 rfl (Nat.le_refl _) (Nat.le_refl _) ⟨rfl, ((((((hY.up (by decide)).up (by decide)).up (by decide)).up (by decide)).up (by decide)).up (by decide)), _, _, ((((((M.g9 (upd g 22 (nI st)) w nw).g9 (upd (upd g 21 0) 22 (nI st)) w nw).g9 (upd (upd (upd g 21 0) 22 (nI st)) 23 0) w nw).g9 (upd (upd (upd g 21 4) 22 (nI st)) 23 0) w nw).g9 (upd (upd (upd g 21 4) 22 (nI st)) 23 (nI (b st))) w nw).g9 (upd (upd (upd (upd g 20 (nI (st + 1))) 21 4) 22 (nI st)) 23 (nI (b st))) w nw), ((((hS.up (by decide)).up (by decide)).up (by decide)).up (by decide)), ?_⟩
                obtain ⟨y1, y2⟩ := lx_mrk hlx (by omega) (by unfold isM; omega)
                have y4 : 4 ≤ t.1 := by omega
                exact ⟨by rw [← hst]; rfl, fun z => by omega, fun z => by omega, fun z => by omega, fun z => by omega, fun _ => ⟨rfl, by rw [y1]; rfl, by rw [y2]; rfl⟩⟩
              · rw [show (44 : Int32) = nI 44 from rfl, nI_eq (by omega) (by omega)] at c_225
                refine x_iload_n dX14_next_228 rfl ?_
                refine x_bipush (v := 46) dX14_next_229 (by decide) ?_
                refine x_icmp_eq 246 dX14_next_231 (by decide) (fun c_231 => ?_) (fun c_231 => ?_)
                · rw [show (46 : Int32) = nI 46 from rfl, nI_eq (by omega) (by omega)] at c_231
                  refine x_aload_n dX14_next_246 rfl ?_
                  refine x_iconst (v := 4) dX14_next_247 (by decide) ?_
                  refine x_put (mL (upd (upd (upd g 21 4) 22 (nI st)) 23 0) w nw) lf_X14_115 dX14_next_248 (xup_self _ _ _) (Nat.le_of_ble_eq_true rfl) rfl rfl rfl ?_
                  refine x_aload_n dX14_next_251 rfl ?_
                  refine x_iload_n dX14_next_252 rfl ?_
                  refine x_put (mL (upd (upd (upd g 21 4) 22 (nI st)) 23 (nI (b st))) w nw) lf_X14_118 dX14_next_253 (xup_self _ _ _) (Nat.le_of_ble_eq_true rfl) rfl rfl rfl ?_
                  refine x_aload_n dX14_next_256 rfl ?_
                  refine x_dup dX14_next_257 rfl ?_
                  refine x_get lf_X14_107 dX14_next_258 (xup_self _ _ _) rfl ?_
                  refine x_top (y := nI st) h20 ?_
                  refine x_iconst (v := 1) dX14_next_261 (by decide) ?_
                  refine x_iadd dX14_next_262 ?_
                  refine x_top (y := nI (st + 1)) (nI_add st 1) ?_
                  refine x_put (mL (upd (upd (upd (upd g 20 (nI (st + 1))) 21 4) 22 (nI st)) 23 (nI (b st))) w nw) lf_X14_107 dX14_next_263 (xup_self _ _ _) (Nat.le_of_ble_eq_true rfl) rfl rfl rfl ?_
                  refine x_vret dX14_next_266 rfl (Nat.le_refl _) (Nat.le_refl _) ⟨rfl, ((((((hY.up (by decide)).up (by decide)).up (by decide)).up (by decide)).up (by decide)).up (by decide)), _, _, ((((((M.g9 (upd g 22 (nI st)) w nw).g9 (upd (upd g 21 0) 22 (nI st)) w nw).g9 (upd (upd (upd g 21 0) 22 (nI st)) 23 0) w nw).g9 (upd (upd (upd g 21 4) 22 (nI st)) 23 0) w nw).g9 (upd (upd (upd g 21 4) 22 (nI st)) 23 (nI (b st))) w nw).g9 (upd (upd (upd (upd g 20 (nI (st + 1))) 21 4) 22 (nI st)) 23 (nI (b st))) w nw), ((((hS.up (by decide)).up (by decide)).up (by decide)).up (by decide)), ?_⟩
                  obtain ⟨y1, y2⟩ := lx_mrk hlx (by omega) (by unfold isM; omega)
                  have y4 : 4 ≤ t.1 := by omega
                  exact ⟨by rw [← hst]; rfl, fun z => by omega, fun z => by omega, fun z => by omega, fun z => by omega, fun _ => ⟨rfl, by rw [y1]; rfl, by rw [y2]; rfl⟩⟩
                · rw [show (46 : Int32) = nI 46 from rfl, nI_eq (by omega) (by omega)] at c_231
                  refine x_iload_n dX14_next_234 rfl ?_
                  refine x_bipush (v := 58) dX14_next_235 (by decide) ?_
                  refine x_icmp_eq 246 dX14_next_237 (by decide) (fun c_237 => ?_) (fun c_237 => ?_)
                  · rw [show (58 : Int32) = nI 58 from rfl, nI_eq (by omega) (by omega)] at c_237
                    refine x_aload_n dX14_next_246 rfl ?_
                    refine x_iconst (v := 4) dX14_next_247 (by decide) ?_
                    refine x_put (mL (upd (upd (upd g 21 4) 22 (nI st)) 23 0) w nw) lf_X14_115 dX14_next_248 (xup_self _ _ _) (Nat.le_of_ble_eq_true rfl) rfl rfl rfl ?_
                    refine x_aload_n dX14_next_251 rfl ?_
                    refine x_iload_n dX14_next_252 rfl ?_
                    refine x_put (mL (upd (upd (upd g 21 4) 22 (nI st)) 23 (nI (b st))) w nw) lf_X14_118 dX14_next_253 (xup_self _ _ _) (Nat.le_of_ble_eq_true rfl) rfl rfl rfl ?_
                    refine x_aload_n dX14_next_256 rfl ?_
                    refine x_dup dX14_next_257 rfl ?_
                    refine x_get lf_X14_107 dX14_next_258 (xup_self _ _ _) rfl ?_
                    refine x_top (y := nI st) h20 ?_
                    refine x_iconst (v := 1) dX14_next_261 (by decide) ?_
                    refine x_iadd dX14_next_262 ?_
                    refine x_top (y := nI (st + 1)) (nI_add st 1) ?_
                    refine x_put (mL (upd (upd (upd (upd g 20 (nI (st + 1))) 21 4) 22 (nI st)) 23 (nI (b st))) w nw) lf_X14_107 dX14_next_263 (xup_self _ _ _) (Nat.le_of_ble_eq_true rfl) rfl rfl rfl ?_
                    refine x_vret dX14_next_266 rfl (Nat.le_refl _) (Nat.le_refl _) ⟨rfl, ((((((hY.up (by decide)).up (by decide)).up (by decide)).up (by decide)).up (by decide)).up (by decide)), _, _, ((((((M.g9 (upd g 22 (nI st)) w nw).g9 (upd (upd g 21 0) 22 (nI st)) w nw).g9 (upd (upd (upd g 21 0) 22 (nI st)) 23 0) w nw).g9 (upd (upd (upd g 21 4) 22 (nI st)) 23 0) w nw).g9 (upd (upd (upd g 21 4) 22 (nI st)) 23 (nI (b st))) w nw).g9 (upd (upd (upd (upd g 20 (nI (st + 1))) 21 4) 22 (nI st)) 23 (nI (b st))) w nw), ((((hS.up (by decide)).up (by decide)).up (by decide)).up (by decide)), ?_⟩
                    obtain ⟨y1, y2⟩ := lx_mrk hlx (by omega) (by unfold isM; omega)
                    have y4 : 4 ≤ t.1 := by omega
                    exact ⟨by rw [← hst]; rfl, fun z => by omega, fun z => by omega, fun z => by omega, fun z => by omega, fun _ => ⟨rfl, by rw [y1]; rfl, by rw [y2]; rfl⟩⟩
                  · rw [show (58 : Int32) = nI 58 from rfl, nI_eq (by omega) (by omega)] at c_237
                    refine x_iload_n dX14_next_240 rfl ?_
                    refine x_bipush (v := 35) dX14_next_241 (by decide) ?_
                    refine x_icmp_ne 266 dX14_next_243 (by decide) (fun c_243 => ?_) (fun c_243 => ?_)
                    · rw [show (35 : Int32) = nI 35 from rfl, nI_eq (by omega) (by omega)] at c_243
                      refine x_vret dX14_next_266 rfl (Nat.le_refl _) (Nat.le_refl _) ⟨rfl, (((hY.up (by decide)).up (by decide)).up (by decide)), _, _, (((M.g9 (upd g 22 (nI st)) w nw).g9 (upd (upd g 21 0) 22 (nI st)) w nw).g9 (upd (upd (upd g 21 0) 22 (nI st)) 23 0) w nw), (((hS.up (by decide)).up (by decide)).up (by decide)), ?_⟩
                      have y := lx_bad hlx (by omega) hnl (by unfold isS; omega) (by unfold isM; omega)
                      exact ⟨by rw [← hst]; rfl, fun z => by omega, fun _ => ⟨rfl, rfl⟩, fun z => by omega, fun z => by omega, fun z => by omega⟩
                    · rw [show (35 : Int32) = nI 35 from rfl, nI_eq (by omega) (by omega)] at c_243
                      refine x_aload_n dX14_next_246 rfl ?_
                      refine x_iconst (v := 4) dX14_next_247 (by decide) ?_
                      refine x_put (mL (upd (upd (upd g 21 4) 22 (nI st)) 23 0) w nw) lf_X14_115 dX14_next_248 (xup_self _ _ _) (Nat.le_of_ble_eq_true rfl) rfl rfl rfl ?_
                      refine x_aload_n dX14_next_251 rfl ?_
                      refine x_iload_n dX14_next_252 rfl ?_
                      refine x_put (mL (upd (upd (upd g 21 4) 22 (nI st)) 23 (nI (b st))) w nw) lf_X14_118 dX14_next_253 (xup_self _ _ _) (Nat.le_of_ble_eq_true rfl) rfl rfl rfl ?_
                      refine x_aload_n dX14_next_256 rfl ?_
                      refine x_dup dX14_next_257 rfl ?_
                      refine x_get lf_X14_107 dX14_next_258 (xup_self _ _ _) rfl ?_
                      refine x_top (y := nI st) h20 ?_
                      refine x_iconst (v := 1) dX14_next_261 (by decide) ?_
                      refine x_iadd dX14_next_262 ?_
                      refine x_top (y := nI (st + 1)) (nI_add st 1) ?_
                      refine x_put (mL (upd (upd (upd (upd g 20 (nI (st + 1))) 21 4) 22 (nI st)) 23 (nI (b st))) w nw) lf_X14_107 dX14_next_263 (xup_self _ _ _) (Nat.le_of_ble_eq_true rfl) rfl rfl rfl ?_
                      refine x_vret dX14_next_266 rfl (Nat.le_refl _) (Nat.le_refl _) ⟨rfl, ((((((hY.up (by decide)).up (by decide)).up (by decide)).up (by decide)).up (by decide)).up (by decide)), _, _, ((((((M.g9 (upd g 22 (nI st)) w nw).g9 (upd (upd g 21 0) 22 (nI st)) w nw).g9 (upd (upd (upd g 21 0) 22 (nI st)) 23 0) w nw).g9 (upd (upd (upd g 21 4) 22 (nI st)) 23 0) w nw).g9 (upd (upd (upd g 21 4) 22 (nI st)) 23 (nI (b st))) w nw).g9 (upd (upd (upd (upd g 20 (nI (st + 1))) 21 4) 22 (nI st)) 23 (nI (b st))) w nw), ((((hS.up (by decide)).up (by decide)).up (by decide)).up (by decide)), ?_⟩
                      obtain ⟨y1, y2⟩ := lx_mrk hlx (by omega) (by unfold isM; omega)
                      have y4 : 4 ≤ t.1 := by omega
                      exact ⟨by rw [← hst]; rfl, fun z => by omega, fun z => by omega, fun z => by omega, fun z => by omega, fun _ => ⟨rfl, by rw [y1]; rfl, by rw [y2]; rfl⟩⟩
        · rw [show (72 : Int32) = nI 72 from rfl, nI_ltI (by omega) (by omega)] at c_184
          refine x_aload_n dX14_next_187 rfl ?_
          refine x_iconst (v := 3) dX14_next_188 (by decide) ?_
          refine x_put (mL (upd (upd (upd g 21 3) 22 (nI st)) 23 0) w nw) lf_X14_115 dX14_next_189 (xup_self _ _ _) (Nat.le_of_ble_eq_true rfl) rfl rfl rfl ?_
          refine x_aload_n dX14_next_192 rfl ?_
          refine x_iload_n dX14_next_193 rfl ?_
          refine x_put (mL (upd (upd (upd g 21 3) 22 (nI st)) 23 (nI (b st))) w nw) lf_X14_118 dX14_next_194 (xup_self _ _ _) (Nat.le_of_ble_eq_true rfl) rfl rfl rfl ?_
          refine x_aload_n dX14_next_197 rfl ?_
          refine x_dup dX14_next_198 rfl ?_
          refine x_get lf_X14_107 dX14_next_199 (xup_self _ _ _) rfl ?_
          refine x_top (y := nI st) h20 ?_
          refine x_iconst (v := 1) dX14_next_202 (by decide) ?_
          refine x_iadd dX14_next_203 ?_
          refine x_top (y := nI (st + 1)) (nI_add st 1) ?_
          refine x_put (mL (upd (upd (upd (upd g 20 (nI (st + 1))) 21 3) 22 (nI st)) 23 (nI (b st))) w nw) lf_X14_107 dX14_next_204 (xup_self _ _ _) (Nat.le_of_ble_eq_true rfl) rfl rfl rfl ?_
          refine x_goto 266 dX14_next_207 (by decide) ?_
          refine x_vret dX14_next_266 rfl (Nat.le_refl _) (Nat.le_refl _) ⟨rfl, ((((((hY.up (by decide)).up (by decide)).up (by decide)).up (by decide)).up (by decide)).up (by decide)), _, _, ((((((M.g9 (upd g 22 (nI st)) w nw).g9 (upd (upd g 21 0) 22 (nI st)) w nw).g9 (upd (upd (upd g 21 0) 22 (nI st)) 23 0) w nw).g9 (upd (upd (upd g 21 3) 22 (nI st)) 23 0) w nw).g9 (upd (upd (upd g 21 3) 22 (nI st)) 23 (nI (b st))) w nw).g9 (upd (upd (upd (upd g 20 (nI (st + 1))) 21 3) 22 (nI st)) 23 (nI (b st))) w nw), ((((hS.up (by decide)).up (by decide)).up (by decide)).up (by decide)), ?_⟩
          obtain ⟨y1, y2, y3⟩ := lx_sgn hlx (by omega) ⟨by omega, by omega⟩
          exact ⟨by rw [← hst]; rfl, fun z => by omega, fun z => by omega, fun z => by omega, fun _ => ⟨rfl, by unfold cS; rw [y2]; rfl, by rw [y3]; rfl⟩, fun z => by omega⟩
    · have c_85 := bi_t c_85
      refine x_aload_n dX14_next_88 rfl ?_
      refine x_lconst (v := 0) dX14_next_89 (by decide) ?_
      refine x_put (mL (upd (upd (upd g 21 0) 22 (nI st)) 23 0) 0 nw) lf_X14_125 dX14_next_90 (xup_self _ _ _) (Nat.le_of_ble_eq_true rfl) rfl rfl rfl ?_
      exact l_X14_word hT hlx (n + 1) 0 (by omega) (by omega) (by omega) ((((M.g9 (upd g 22 (nI st)) w nw).g9 (upd (upd g 21 0) 22 (nI st)) w nw).g9 (upd (upd (upd g 21 0) 22 (nI st)) 23 0) w nw).g9 (upd (upd (upd g 21 0) 22 (nI st)) 23 0) 0 nw) ((((hY.up (by decide)).up (by decide)).up (by decide)).up (by decide)) ((hS.up (by decide)).up (by decide) |>.up (by decide)) h19 h20 ⟨by rw [← hst]; rfl, rfl, rfl⟩ (fun _ => rfl) (fun j hj => absurd hj (by omega)) (fun _ => (isL_i hb256).mp (hb9.mp c_85))
  · refine x_aload_n dX14_next_39 rfl ?_
    refine x_aload_n dX14_next_40 rfl ?_
    refine x_get lf_X14_107 dX14_next_41 M.o rfl ?_
    refine x_top (y := nI st) h20 ?_
    refine x_put (mL (upd g 22 (nI st)) w nw) lf_X14_114 dX14_next_44 M.o (Nat.le_of_ble_eq_true rfl) rfl rfl rfl ?_
    refine x_aload_n dX14_next_47 rfl ?_
    refine x_iconst (v := 0) dX14_next_48 (by decide) ?_
    refine x_put (mL (upd (upd g 21 0) 22 (nI st)) w nw) lf_X14_115 dX14_next_49 (xup_self _ _ _) (Nat.le_of_ble_eq_true rfl) rfl rfl rfl ?_
    refine x_aload_n dX14_next_52 rfl ?_
    refine x_iconst (v := 0) dX14_next_53 (by decide) ?_
    refine x_put (mL (upd (upd (upd g 21 0) 22 (nI st)) 23 0) w nw) lf_X14_118 dX14_next_54 (xup_self _ _ _) (Nat.le_of_ble_eq_true rfl) rfl rfl rfl ?_
    refine x_aload_n dX14_next_57 rfl ?_
    refine x_aload_n dX14_next_58 rfl ?_
    refine x_get lf_X14_107 dX14_next_59 (xup_self _ _ _) rfl ?_
    refine x_top (y := nI st) h20 ?_
    refine x_callV (As := [.int (nI st)]) (st := []) lv_X14_110 (k_X14_byteAt ((((M.g9 (upd g 22 (nI st)) w nw).g9 (upd (upd g 21 0) 22 (nI st)) w nw).g9 (upd (upd (upd g 21 0) 22 (nI st)) 23 0) w nw)) hT h19 (by omega)) dX14_next_62 (xup_self _ _ _) rfl rfl (Nat.le_of_ble_eq_true rfl) ⟨by decide, by decide⟩ ⟨by decide, by decide⟩ (fun v9 h9 z => ?_) (fun _ _ _ _ _ z => by cases z.1)
    rw [bA_ge (show n ≤ st by omega)] at z
    obtain ⟨ev, eh⟩ := z
    rw [eh]
    cases ev
    refine x_istore_n [(0, .ref 205), (1, .int (-1))] dX14_next_65 (by decide) rfl rfl ?_
    refine x_iconst (v := 0) dX14_next_66 (by decide) ?_
    refine x_istore_n [(0, .ref 205), (1, .int (-1)), (2, .int 0)] dX14_next_67 (by decide) rfl rfl ?_
    refine x_iload_n dX14_next_68 rfl ?_
    refine x_iconst (v := (-1)) dX14_next_69 (by decide) ?_
    refine x_icmp_ne 81 dX14_next_70 (by decide) (fun c => absurd c (by decide)) (fun _ => ?_)
    refine x_aload_n dX14_next_73 rfl ?_
    refine x_iconst (v := 1) dX14_next_74 (by decide) ?_
    refine x_put (mL (upd (upd (upd g 21 1) 22 (nI st)) 23 0) w nw) lf_X14_115 dX14_next_75 (xup_self _ _ _) (Nat.le_of_ble_eq_true rfl) rfl rfl rfl ?_
    refine x_goto 266 dX14_next_78 (by decide) ?_
    refine x_vret dX14_next_266 rfl (Nat.le_refl _) (Nat.le_refl _) ⟨rfl, ((((hY.up (by decide)).up (by decide)).up (by decide)).up (by decide)), _, _, ((((M.g9 (upd g 22 (nI st)) w nw).g9 (upd (upd g 21 0) 22 (nI st)) w nw).g9 (upd (upd (upd g 21 0) 22 (nI st)) 23 0) w nw).g9 (upd (upd (upd g 21 1) 22 (nI st)) 23 0) w nw), (((hS.up (by decide)).up (by decide)).up (by decide)), ?_⟩
    have y := lx_end (show lxA b n n t p' from (show st = n by omega) ▸ hlx)
    exact ⟨by rw [← hst]; rfl, fun _ => ⟨rfl, rfl⟩, fun z => by omega, fun z => by omega, fun z => by omega, fun z => by omega⟩
set_option maxRecDepth 100000 in
set_option maxHeartbeats 4000000 in
theorem l_X14_blank {G : xG} {h0 : xHp} {g0 : Nat → Int32} {nw : Value} {ar : Nat → Nat → Int32} {tw kw : Nat → Int64} {rf : Nat → Option Nat} {b : Nat → Nat} {n : Nat} (hT : tpM ar b n) {t : Tk} {p' : Nat} {p : Nat} (hx : lexR b n p t p') : ∀ (f j : Nat), p ≤ j → j ≤ t.2.1 → t.2.1 + 1 ≤ j + f → ∀ {h : xHp} {g : Nat → Int32} {w : Int64}, MH h g w nw ar tw kw rf → yfr h0 h → gSame g0 g → g 19 = nI n → g 20 = nI j → Wx G mX14_next (xRm 2 0 0) (xF G (fun o h' => o = .inl none ∧ yfr h0 h' ∧ ∃ g' w', MH h' (g') (w') nw ar tw kw rf ∧ gSame g0 g' ∧ curT t p' g' w') 0 0) 0 0 0 [(0, .ref 205)] [] h := by
  have hn4 := hT.1
  obtain ⟨hx1, hx2, hbl, hlx⟩ := hx
  intro f
  induction f with
  | zero => exact fun j h0 h1 h2 => absurd h2 (by omega)
  | succ f ih =>
    intro j hpj hj1 hj2 h g w M hY hS h19 h20
    rcases Nat.lt_or_ge j t.2.1 with hlow | hhi
    · refine x_aload_n dX14_next_0 rfl ?_
      refine x_aload_n dX14_next_1 rfl ?_
      refine x_get lf_X14_107 dX14_next_2 M.o rfl ?_
      refine x_top (y := nI j) h20 ?_
      refine x_callV (As := [.int (nI j)]) (st := []) lv_X14_110 (k_X14_byteAt M hT h19 (by omega)) dX14_next_5 M.o rfl rfl (Nat.le_of_ble_eq_true rfl) ⟨by decide, by decide⟩ ⟨by decide, by decide⟩ (fun v9 h9 z => ?_) (fun _ _ _ _ _ z => by cases z.1)
      rw [bA_lt (show j < n by omega)] at z
      obtain ⟨ev, eh⟩ := z
      rw [eh]
      cases ev
      have hb256 := (hT.2 j (by omega)).2
      refine x_bipush (v := 32) dX14_next_8 (by decide) ?_
      refine x_icmp_eq 26 dX14_next_10 (by decide) (fun c_10 => ?_) (fun c_10 => ?_)
      · rw [show (32 : Int32) = nI 32 from rfl, nI_eq (by omega) (by omega)] at c_10
        refine x_aload_n dX14_next_26 rfl ?_
        refine x_dup dX14_next_27 rfl ?_
        refine x_get lf_X14_107 dX14_next_28 M.o rfl ?_
        refine x_top (y := nI j) h20 ?_
        refine x_iconst (v := 1) dX14_next_31 (by decide) ?_
        refine x_iadd dX14_next_32 ?_
        refine x_top (y := nI (j + 1)) (nI_add j 1) ?_
        refine x_put (mL (upd g 20 (nI (j + 1))) w nw) lf_X14_107 dX14_next_33 M.o (Nat.le_of_ble_eq_true rfl) rfl rfl rfl ?_
        refine x_goto 0 dX14_next_36 (by decide) ?_
        exact ih (j + 1) (by omega) (by omega) (by omega) (M.g9 (upd g 20 (nI (j + 1))) w nw) (hY.up (by decide)) (hS.up (by decide)) h19 rfl
      · rw [show (32 : Int32) = nI 32 from rfl, nI_eq (by omega) (by omega)] at c_10
        refine x_aload_n dX14_next_13 rfl ?_
        refine x_aload_n dX14_next_14 rfl ?_
        refine x_get lf_X14_107 dX14_next_15 M.o rfl ?_
        refine x_top (y := nI j) h20 ?_
        refine x_callV (As := [.int (nI j)]) (st := []) lv_X14_110 (k_X14_byteAt M hT h19 (by omega)) dX14_next_18 M.o rfl rfl (Nat.le_of_ble_eq_true rfl) ⟨by decide, by decide⟩ ⟨by decide, by decide⟩ (fun v9 h9 z => ?_) (fun _ _ _ _ _ z => by cases z.1)
        rw [bA_lt (show j < n by omega)] at z
        obtain ⟨ev, eh⟩ := z
        rw [eh]
        cases ev
        refine x_bipush (v := 10) dX14_next_21 (by decide) ?_
        refine x_icmp_ne 39 dX14_next_23 (by decide) (fun c_23 => ?_) (fun c_23 => ?_)
        · rw [show (10 : Int32) = nI 10 from rfl, nI_eq (by omega) (by omega)] at c_23
          have z := hbl j hpj (by omega)
          unfold isB at z
          omega
        · rw [show (10 : Int32) = nI 10 from rfl, nI_eq (by omega) (by omega)] at c_23
          refine x_aload_n dX14_next_26 rfl ?_
          refine x_dup dX14_next_27 rfl ?_
          refine x_get lf_X14_107 dX14_next_28 M.o rfl ?_
          refine x_top (y := nI j) h20 ?_
          refine x_iconst (v := 1) dX14_next_31 (by decide) ?_
          refine x_iadd dX14_next_32 ?_
          refine x_top (y := nI (j + 1)) (nI_add j 1) ?_
          refine x_put (mL (upd g 20 (nI (j + 1))) w nw) lf_X14_107 dX14_next_33 M.o (Nat.le_of_ble_eq_true rfl) rfl rfl rfl ?_
          refine x_goto 0 dX14_next_36 (by decide) ?_
          exact ih (j + 1) (by omega) (by omega) (by omega) (M.g9 (upd g 20 (nI (j + 1))) w nw) (hY.up (by decide)) (hS.up (by decide)) h19 rfl
    · rcases lxA_nb hlx with he | ⟨hlt, hnb⟩
      · refine x_aload_n dX14_next_0 rfl ?_
        refine x_aload_n dX14_next_1 rfl ?_
        refine x_get lf_X14_107 dX14_next_2 M.o rfl ?_
        refine x_top (y := nI j) h20 ?_
        refine x_callV (As := [.int (nI j)]) (st := []) lv_X14_110 (k_X14_byteAt M hT h19 (by omega)) dX14_next_5 M.o rfl rfl (Nat.le_of_ble_eq_true rfl) ⟨by decide, by decide⟩ ⟨by decide, by decide⟩ (fun v9 h9 z => ?_) (fun _ _ _ _ _ z => by cases z.1)
        rw [bA_ge (show n ≤ j by omega)] at z
        obtain ⟨ev, eh⟩ := z
        rw [eh]
        cases ev
        refine x_bipush (v := 32) dX14_next_8 (by decide) ?_
        refine x_icmp_eq 26 dX14_next_10 (by decide) (fun c => absurd c (by decide)) (fun _ => ?_)
        refine x_aload_n dX14_next_13 rfl ?_
        refine x_aload_n dX14_next_14 rfl ?_
        refine x_get lf_X14_107 dX14_next_15 M.o rfl ?_
        refine x_top (y := nI j) h20 ?_
        refine x_callV (As := [.int (nI j)]) (st := []) lv_X14_110 (k_X14_byteAt M hT h19 (by omega)) dX14_next_18 M.o rfl rfl (Nat.le_of_ble_eq_true rfl) ⟨by decide, by decide⟩ ⟨by decide, by decide⟩ (fun v9 h9 z => ?_) (fun _ _ _ _ _ z => by cases z.1)
        rw [bA_ge (show n ≤ j by omega)] at z
        obtain ⟨ev, eh⟩ := z
        rw [eh]
        cases ev
        refine x_bipush (v := 10) dX14_next_21 (by decide) ?_
        refine x_icmp_ne 39 dX14_next_23 (by decide) (fun _ => ?_) (fun c => absurd c (by decide))
        exact l_X14_next hT (st := j) (by omega) (by omega) ((show j = t.2.1 by omega) ▸ hlx) M hY hS h19 h20
      · rw [← show j = t.2.1 by omega] at hnb hlt
        refine x_aload_n dX14_next_0 rfl ?_
        refine x_aload_n dX14_next_1 rfl ?_
        refine x_get lf_X14_107 dX14_next_2 M.o rfl ?_
        refine x_top (y := nI j) h20 ?_
        refine x_callV (As := [.int (nI j)]) (st := []) lv_X14_110 (k_X14_byteAt M hT h19 (by omega)) dX14_next_5 M.o rfl rfl (Nat.le_of_ble_eq_true rfl) ⟨by decide, by decide⟩ ⟨by decide, by decide⟩ (fun v9 h9 z => ?_) (fun _ _ _ _ _ z => by cases z.1)
        rw [bA_lt (show j < n by omega)] at z
        obtain ⟨ev, eh⟩ := z
        rw [eh]
        cases ev
        have hb256 := (hT.2 j (by omega)).2
        refine x_bipush (v := 32) dX14_next_8 (by decide) ?_
        refine x_icmp_eq 26 dX14_next_10 (by decide) (fun c_10 => ?_) (fun c_10 => ?_)
        · rw [show (32 : Int32) = nI 32 from rfl, nI_eq (by omega) (by omega)] at c_10
          refine x_aload_n dX14_next_26 rfl ?_
          refine x_dup dX14_next_27 rfl ?_
          refine x_get lf_X14_107 dX14_next_28 M.o rfl ?_
          refine x_top (y := nI j) h20 ?_
          refine x_iconst (v := 1) dX14_next_31 (by decide) ?_
          refine x_iadd dX14_next_32 ?_
          refine x_top (y := nI (j + 1)) (nI_add j 1) ?_
          refine x_put (mL (upd g 20 (nI (j + 1))) w nw) lf_X14_107 dX14_next_33 M.o (Nat.le_of_ble_eq_true rfl) rfl rfl rfl ?_
          refine x_goto 0 dX14_next_36 (by decide) ?_
          exact absurd (by unfold isB; omega) hnb
        · rw [show (32 : Int32) = nI 32 from rfl, nI_eq (by omega) (by omega)] at c_10
          refine x_aload_n dX14_next_13 rfl ?_
          refine x_aload_n dX14_next_14 rfl ?_
          refine x_get lf_X14_107 dX14_next_15 M.o rfl ?_
          refine x_top (y := nI j) h20 ?_
          refine x_callV (As := [.int (nI j)]) (st := []) lv_X14_110 (k_X14_byteAt M hT h19 (by omega)) dX14_next_18 M.o rfl rfl (Nat.le_of_ble_eq_true rfl) ⟨by decide, by decide⟩ ⟨by decide, by decide⟩ (fun v9 h9 z => ?_) (fun _ _ _ _ _ z => by cases z.1)
          rw [bA_lt (show j < n by omega)] at z
          obtain ⟨ev, eh⟩ := z
          rw [eh]
          cases ev
          refine x_bipush (v := 10) dX14_next_21 (by decide) ?_
          refine x_icmp_ne 39 dX14_next_23 (by decide) (fun c_23 => ?_) (fun c_23 => ?_)
          · rw [show (10 : Int32) = nI 10 from rfl, nI_eq (by omega) (by omega)] at c_23
            exact l_X14_next hT (st := j) (by omega) (by omega) ((show j = t.2.1 by omega) ▸ hlx) M hY hS h19 h20
          · rw [show (10 : Int32) = nI 10 from rfl, nI_eq (by omega) (by omega)] at c_23
            refine x_aload_n dX14_next_26 rfl ?_
            refine x_dup dX14_next_27 rfl ?_
            refine x_get lf_X14_107 dX14_next_28 M.o rfl ?_
            refine x_top (y := nI j) h20 ?_
            refine x_iconst (v := 1) dX14_next_31 (by decide) ?_
            refine x_iadd dX14_next_32 ?_
            refine x_top (y := nI (j + 1)) (nI_add j 1) ?_
            refine x_put (mL (upd g 20 (nI (j + 1))) w nw) lf_X14_107 dX14_next_33 M.o (Nat.le_of_ble_eq_true rfl) rfl rfl rfl ?_
            refine x_goto 0 dX14_next_36 (by decide) ?_
            exact absurd (by unfold isB; omega) hnb
set_option maxRecDepth 100000 in
set_option maxHeartbeats 4000000 in
theorem k_X14_next {G : xG} {h : xHp} {g : Nat → Int32} {w : Int64} {nw : Value} {ar : Nat → Nat → Int32} {tw : Nat → Int64} {kw : Nat → Int64} {rf : Nat → Option Nat} (M : MH h g w nw ar tw kw rf) {b : Nat → Nat} {n : Nat} (hT : tpM ar b n) {t : Tk} {p p' : Nat} (hx : lexR b n p t p') (h19 : g 19 = nI n) (h20 : g 20 = nI p) : MX G mX14_next 2 0 0 [.ref 205] h (fun o h' => o = .inl none ∧ yfr h h' ∧ ∃ g' w', MH h' (g') (w') nw ar tw kw rf ∧ gSame g g' ∧ curT t p' g' w') := by
  refine MX.of [(0, .ref 205)] (by decide) rfl (Nat.le_of_ble_eq_true rfl) rfl ?_
  exact l_X14_blank hT hx (n + 2) p (Nat.le_refl _) hx.1 (by have := hx.2.1; omega) M (yfr_rf h) (gSame_rf g) h19 h20
theorem cur_is {t : Tk} {p : Nat} {g : Nat → Int32} {w : Int64} (c : curT t p g w) (ht : t.1 < 256) {x : Nat} (hx : 4 ≤ x) (hx2 : x < 256) : (g 21 = 4 ∧ g 23 = nI x) ↔ t.1 = x := by
  obtain ⟨c0, c1, c2, c3, c4, c5⟩ := c
  rcases Nat.lt_or_ge t.1 4 with z | z
  · refine ⟨fun y => ?_, fun y => by omega⟩
    have y1 := y.1
    rcases (show t.1 = 0 ∨ t.1 = 1 ∨ t.1 = 2 ∨ t.1 = 3 by omega) with e | e | e | e
    · rw [(c1 e).1] at y1; exact absurd y1 (by decide)
    · rw [(c2 e).1] at y1; exact absurd y1 (by decide)
    · rw [(c3 e).1] at y1; exact absurd y1 (by decide)
    · rw [(c4 e).1] at y1; exact absurd y1 (by decide)
  · obtain ⟨y1, y2, y3⟩ := c5 z
    rw [y1, y2, nI_eq (by omega) (by omega)]
    exact ⟨fun y => y.2, fun y => ⟨rfl, y⟩⟩
theorem cur_s {t : Tk} {p : Nat} {g : Nat → Int32} {w : Int64} (c : curT t p g w) : (g 21 = 2 ↔ t.1 = 2) ∧ (g 21 = 3 ↔ t.1 = 3) ∧ (g 21 = 1 ↔ t.1 = 0) := by
  obtain ⟨c0, c1, c2, c3, c4, c5⟩ := c
  rcases (show t.1 = 0 ∨ t.1 = 1 ∨ t.1 = 2 ∨ t.1 = 3 ∨ 4 ≤ t.1 by omega) with e | e | e | e | e
  · rw [(c1 e).1, e]; decide
  · rw [(c2 e).1, e]; decide
  · rw [(c3 e).1, e]; decide
  · rw [(c4 e).1, e]; decide
  · rw [(c5 e).1]; refine ⟨⟨fun z => absurd z (by decide), fun z => by omega⟩, ⟨fun z => absurd z (by decide), fun z => by omega⟩, ⟨fun z => absurd z (by decide), fun z => by omega⟩⟩
set_option maxRecDepth 100000 in
set_option maxHeartbeats 4000000 in
theorem k_X14_is {G : xG} {h : xHp} {g : Nat → Int32} {w : Int64} {nw : Value} {ar : Nat → Nat → Int32} {tw : Nat → Int64} {kw : Nat → Int64} {rf : Nat → Option Nat} (M : MH h g w nw ar tw kw rf) {t : Tk} {p : Nat} (c : curT t p g w) (ht : t.1 < 256) {x : Nat} (hx : 4 ≤ x) (hx2 : x < 256) : MX G mX14_is 1 0 0 [.ref 205, .int (nI x)] h (xAsk (t.1 = x) h) := by
  refine MX.of [(0, .ref 205), (1, .int (nI x))] (by decide) rfl (Nat.le_of_ble_eq_true rfl) rfl ?_
  refine x_aload_n dX14_is_0 rfl ?_
  refine x_get lf_X14_115 dX14_is_1 M.o rfl ?_
  refine x_iconst (v := 4) dX14_is_4 (by decide) ?_
  refine x_icmp_ne 20 dX14_is_5 (by decide) (fun c_5 => ?_) (fun c_5 => ?_)
  · refine x_iconst (v := 0) dX14_is_20 (by decide) ?_
    exact x_iret dX14_is_21 rfl rfl (Nat.le_refl _) (Nat.le_refl _) (xAsk_f (fun z => by have y := (cur_is c ht hx hx2).mpr z; first | exact c_5 y.1 | exact c_13 y.2))
  · refine x_aload_n dX14_is_8 rfl ?_
    refine x_get lf_X14_118 dX14_is_9 M.o rfl ?_
    refine x_iload_n dX14_is_12 rfl ?_
    refine x_icmp_ne 20 dX14_is_13 (by decide) (fun c_13 => ?_) (fun c_13 => ?_)
    · refine x_iconst (v := 0) dX14_is_20 (by decide) ?_
      exact x_iret dX14_is_21 rfl rfl (Nat.le_refl _) (Nat.le_refl _) (xAsk_f (fun z => by have y := (cur_is c ht hx hx2).mpr z; first | exact c_5 y.1 | exact c_13 y.2))
    · refine x_iconst (v := 1) dX14_is_16 (by decide) ?_
      refine x_goto 21 dX14_is_17 (by decide) ?_
      exact x_iret dX14_is_21 rfl rfl (Nat.le_refl _) (Nat.le_refl _) (xAsk_t ((cur_is c ht hx hx2).mp ⟨c_5, c_13⟩))
theorem mw_eq {l m : List Nat} (hl : okW l) (hm : okW m) (l8 : l.length ≤ 8) (m8 : m.length ≤ 8) : lN (mw l) = lN (mw m) ↔ l = m := by
  have a := mw_40 hl l8
  have b := mw_40 hm m8
  rw [pk_lEQ (by omega) (by omega)]
  exact ⟨fun e => mw_inj hl hm e, fun e => by rw [e]⟩
theorem cur_not {t : Tk} {p : Nat} {g : Nat → Int32} {w : Int64} (c : curT t p g w) (hw : t.1 = 2 → okW t.2.2 ∧ t.2.2.length ≤ 8) : (g 21 = 2 ∧ g 24 = 3 ∧ w = 14836) ↔ t.1 = 2 ∧ t.2.2 = NOTW := by
  have ho : okW NOTW := by intro c hc; simp at hc; omega
  have e : (14836 : Int64) = lN (mw NOTW) := by decide
  rw [(cur_s c).1]
  refine ⟨fun ⟨a, b, d⟩ => ⟨a, ?_⟩, fun ⟨a, b⟩ => ⟨a, ?_⟩⟩
  · obtain ⟨c1, c2, c3, c4, c5⟩ := c.2.2.2.1 a
    rw [c3, e, mw_eq (hw a).1 ho (hw a).2 (by decide)] at d
    exact d
  · obtain ⟨c1, c2, c3, c4, c5⟩ := c.2.2.2.1 a
    rw [c4, c3, b]
    exact ⟨rfl, e.symm⟩
set_option maxRecDepth 100000 in
set_option maxHeartbeats 4000000 in
theorem k_X14_isNot {G : xG} {h : xHp} {g : Nat → Int32} {w : Int64} {nw : Value} {ar : Nat → Nat → Int32} {tw : Nat → Int64} {kw : Nat → Int64} {rf : Nat → Option Nat} (M : MH h g w nw ar tw kw rf) {t : Tk} {p : Nat} (c : curT t p g w) (hw : t.1 = 2 → okW t.2.2 ∧ t.2.2.length ≤ 8) : MX G mX14_isNot 1 0 0 [.ref 205] h (xAsk (t.1 = 2 ∧ t.2.2 = NOTW) h) := by
  refine MX.of [(0, .ref 205)] (by decide) rfl (Nat.le_of_ble_eq_true rfl) rfl ?_
  refine x_aload_n dX14_isNot_0 rfl ?_
  refine x_get lf_X14_115 dX14_isNot_1 M.o rfl ?_
  refine x_iconst (v := 2) dX14_isNot_4 (by decide) ?_
  refine x_icmp_ne 31 dX14_isNot_5 (by decide) (fun c_5 => ?_) (fun c_5 => ?_)
  · refine x_iconst (v := 0) dX14_isNot_31 (by decide) ?_
    exact x_iret dX14_isNot_32 rfl rfl (Nat.le_refl _) (Nat.le_refl _) (xAsk_f (fun z => by have y := (cur_not c hw).mpr z; first | exact c_5 y.1 | exact c_13 y.2.1 | exact c_24 ((lg_cmp_eq _ _).mpr y.2.2)))
  · refine x_aload_n dX14_isNot_8 rfl ?_
    refine x_get lf_X14_131 dX14_isNot_9 M.o rfl ?_
    refine x_iconst (v := 3) dX14_isNot_12 (by decide) ?_
    refine x_icmp_ne 31 dX14_isNot_13 (by decide) (fun c_13 => ?_) (fun c_13 => ?_)
    · refine x_iconst (v := 0) dX14_isNot_31 (by decide) ?_
      exact x_iret dX14_isNot_32 rfl rfl (Nat.le_refl _) (Nat.le_refl _) (xAsk_f (fun z => by have y := (cur_not c hw).mpr z; first | exact c_5 y.1 | exact c_13 y.2.1 | exact c_24 ((lg_cmp_eq _ _).mpr y.2.2)))
    · refine x_aload_n dX14_isNot_16 rfl ?_
      refine x_get lf_X14_125 dX14_isNot_17 M.o rfl ?_
      refine x_ldc2 kl_X14_134 dX14_isNot_20 ?_
      refine x_lcmp dX14_isNot_23 ?_
      refine x_if_ne 31 dX14_isNot_24 (by decide) (fun c_24 => ?_) (fun c_24 => ?_)
      · refine x_iconst (v := 0) dX14_isNot_31 (by decide) ?_
        exact x_iret dX14_isNot_32 rfl rfl (Nat.le_refl _) (Nat.le_refl _) (xAsk_f (fun z => by have y := (cur_not c hw).mpr z; first | exact c_5 y.1 | exact c_13 y.2.1 | exact c_24 ((lg_cmp_eq _ _).mpr y.2.2)))
      · refine x_iconst (v := 1) dX14_isNot_27 (by decide) ?_
        refine x_goto 32 dX14_isNot_28 (by decide) ?_
        exact x_iret dX14_isNot_32 rfl rfl (Nat.le_refl _) (Nat.le_refl _) (xAsk_t ((cur_not c hw).mp ⟨c_5, c_13, (lg_cmp_eq _ _).mp c_24⟩))
theorem lx_35 {b : Nat → Nat} {n st p' : Nat} {t : Tk} (h : lxA b n st t p') (h1 : t.1 = 35) : b st = 35 := by
  rcases h with ⟨a, c, d⟩ | ⟨m, a, c, d, e, f, g, i, j⟩ | ⟨a, c, d⟩ | ⟨a, c, d, e, f⟩ | ⟨a, c, d, e⟩ | ⟨a, c, d, e, f, g⟩ <;> omega
set_option maxRecDepth 100000 in
set_option maxHeartbeats 4000000 in
theorem l_X14_unl {G : xG} {h : xHp} {g : Nat → Int32} {w : Int64} {nw : Value} {ar : Nat → Nat → Int32} {tw : Nat → Int64} {kw : Nat → Int64} {rf : Nat → Option Nat} (M : MH h g w nw ar tw kw rf) {b : Nat → Nat} {n : Nat} (hT : tpM ar b n) {t : Tk} {p p' : Nat} (hx : lexR b n p t p') (h19 : g 19 = nI n) : ∀ (f j : Nat), p ≤ j → j ≤ t.2.1 → t.2.1 + 1 ≤ j + f → Wx G mX14_isBeforeUnlike (xRm 2 0 0) (xF G (xAsk (t.1 = 35) h) 0 0) 0 0 5 [(0, .ref 205), (1, .int (nI j))] [] h := by
  have hn4 := hT.1
  obtain ⟨hx1, hx2, hbl, hlx⟩ := hx
  intro f
  induction f with
  | zero => exact fun j h0 h1 h2 => absurd h2 (by omega)
  | succ f ih =>
    intro j hpj hj1 hj2
    rcases Nat.lt_or_ge j t.2.1 with hlow | hhi
    · refine x_aload_n dX14_isBeforeUnlike_5 rfl ?_
      refine x_iload_n dX14_isBeforeUnlike_6 rfl ?_
      refine x_callV (As := [.int (nI j)]) (st := []) lv_X14_110 (k_X14_byteAt M hT h19 (by omega)) dX14_isBeforeUnlike_7 M.o rfl rfl (Nat.le_of_ble_eq_true rfl) ⟨by decide, by decide⟩ ⟨by decide, by decide⟩ (fun v9 h9 z => ?_) (fun _ _ _ _ _ z => by cases z.1)
      rw [bA_lt (show j < n by omega)] at z
      obtain ⟨ev, eh⟩ := z
      rw [eh]
      cases ev
      have hb256 := (hT.2 j (by omega)).2
      refine x_bipush (v := 32) dX14_isBeforeUnlike_10 (by decide) ?_
      refine x_icmp_eq 25 dX14_isBeforeUnlike_12 (by decide) (fun c_12 => ?_) (fun c_12 => ?_)
      · rw [show (32 : Int32) = nI 32 from rfl, nI_eq (by omega) (by omega)] at c_12
        refine x_iinc (v := nI (j + 1)) [(0, .ref 205), (1, .int (nI (j + 1)))] dX14_isBeforeUnlike_25 rfl (nI_add j 1) (by decide) rfl rfl ?_
        refine x_goto 5 dX14_isBeforeUnlike_28 (by decide) ?_
        exact ih (j + 1) (by omega) (by omega) (by omega)
      · rw [show (32 : Int32) = nI 32 from rfl, nI_eq (by omega) (by omega)] at c_12
        refine x_aload_n dX14_isBeforeUnlike_15 rfl ?_
        refine x_iload_n dX14_isBeforeUnlike_16 rfl ?_
        refine x_callV (As := [.int (nI j)]) (st := []) lv_X14_110 (k_X14_byteAt M hT h19 (by omega)) dX14_isBeforeUnlike_17 M.o rfl rfl (Nat.le_of_ble_eq_true rfl) ⟨by decide, by decide⟩ ⟨by decide, by decide⟩ (fun v9 h9 z => ?_) (fun _ _ _ _ _ z => by cases z.1)
        rw [bA_lt (show j < n by omega)] at z
        obtain ⟨ev, eh⟩ := z
        rw [eh]
        cases ev
        refine x_bipush (v := 10) dX14_isBeforeUnlike_20 (by decide) ?_
        refine x_icmp_ne 31 dX14_isBeforeUnlike_22 (by decide) (fun c_22 => ?_) (fun c_22 => ?_)
        · rw [show (10 : Int32) = nI 10 from rfl, nI_eq (by omega) (by omega)] at c_22
          have z := hbl j hpj (by omega)
          unfold isB at z
          omega
        · rw [show (10 : Int32) = nI 10 from rfl, nI_eq (by omega) (by omega)] at c_22
          refine x_iinc (v := nI (j + 1)) [(0, .ref 205), (1, .int (nI (j + 1)))] dX14_isBeforeUnlike_25 rfl (nI_add j 1) (by decide) rfl rfl ?_
          refine x_goto 5 dX14_isBeforeUnlike_28 (by decide) ?_
          exact ih (j + 1) (by omega) (by omega) (by omega)
    · rcases lxA_nb hlx with he | ⟨hlt, hnb⟩
      · refine x_aload_n dX14_isBeforeUnlike_5 rfl ?_
        refine x_iload_n dX14_isBeforeUnlike_6 rfl ?_
        refine x_callV (As := [.int (nI j)]) (st := []) lv_X14_110 (k_X14_byteAt M hT h19 (by omega)) dX14_isBeforeUnlike_7 M.o rfl rfl (Nat.le_of_ble_eq_true rfl) ⟨by decide, by decide⟩ ⟨by decide, by decide⟩ (fun v9 h9 z => ?_) (fun _ _ _ _ _ z => by cases z.1)
        rw [bA_ge (show n ≤ j by omega)] at z
        obtain ⟨ev, eh⟩ := z
        rw [eh]
        cases ev
        refine x_bipush (v := 32) dX14_isBeforeUnlike_10 (by decide) ?_
        refine x_icmp_eq 25 dX14_isBeforeUnlike_12 (by decide) (fun c => absurd c (by decide)) (fun _ => ?_)
        refine x_aload_n dX14_isBeforeUnlike_15 rfl ?_
        refine x_iload_n dX14_isBeforeUnlike_16 rfl ?_
        refine x_callV (As := [.int (nI j)]) (st := []) lv_X14_110 (k_X14_byteAt M hT h19 (by omega)) dX14_isBeforeUnlike_17 M.o rfl rfl (Nat.le_of_ble_eq_true rfl) ⟨by decide, by decide⟩ ⟨by decide, by decide⟩ (fun v9 h9 z => ?_) (fun _ _ _ _ _ z => by cases z.1)
        rw [bA_ge (show n ≤ j by omega)] at z
        obtain ⟨ev, eh⟩ := z
        rw [eh]
        cases ev
        refine x_bipush (v := 10) dX14_isBeforeUnlike_20 (by decide) ?_
        refine x_icmp_ne 31 dX14_isBeforeUnlike_22 (by decide) (fun _ => ?_) (fun c => absurd c (by decide))
        refine x_aload_n dX14_isBeforeUnlike_31 rfl ?_
        refine x_iload_n dX14_isBeforeUnlike_32 rfl ?_
        refine x_callV (As := [.int (nI j)]) (st := []) lv_X14_110 (k_X14_byteAt M hT h19 (by omega)) dX14_isBeforeUnlike_33 M.o rfl rfl (Nat.le_of_ble_eq_true rfl) ⟨by decide, by decide⟩ ⟨by decide, by decide⟩ (fun v9 h9 z => ?_) (fun _ _ _ _ _ z => by cases z.1)
        rw [bA_ge (show n ≤ j by omega)] at z
        obtain ⟨ev, eh⟩ := z
        rw [eh]
        cases ev
        refine x_bipush (v := 35) dX14_isBeforeUnlike_36 (by decide) ?_
        refine x_icmp_ne 45 dX14_isBeforeUnlike_38 (by decide) (fun _ => ?_) (fun c => absurd c (by decide))
        refine x_iconst (v := 0) dX14_isBeforeUnlike_45 (by decide) ?_
        exact x_iret dX14_isBeforeUnlike_46 rfl rfl (Nat.le_refl _) (Nat.le_refl _) (xAsk_f (fun z => by have y := lx_end (show lxA b n n t p' from he ▸ hlx); omega))
      · rw [← show j = t.2.1 by omega] at hnb hlt
        refine x_aload_n dX14_isBeforeUnlike_5 rfl ?_
        refine x_iload_n dX14_isBeforeUnlike_6 rfl ?_
        refine x_callV (As := [.int (nI j)]) (st := []) lv_X14_110 (k_X14_byteAt M hT h19 (by omega)) dX14_isBeforeUnlike_7 M.o rfl rfl (Nat.le_of_ble_eq_true rfl) ⟨by decide, by decide⟩ ⟨by decide, by decide⟩ (fun v9 h9 z => ?_) (fun _ _ _ _ _ z => by cases z.1)
        rw [bA_lt (show j < n by omega)] at z
        obtain ⟨ev, eh⟩ := z
        rw [eh]
        cases ev
        have hb256 := (hT.2 j (by omega)).2
        refine x_bipush (v := 32) dX14_isBeforeUnlike_10 (by decide) ?_
        refine x_icmp_eq 25 dX14_isBeforeUnlike_12 (by decide) (fun c_12 => ?_) (fun c_12 => ?_)
        · rw [show (32 : Int32) = nI 32 from rfl, nI_eq (by omega) (by omega)] at c_12
          refine x_iinc (v := nI (j + 1)) [(0, .ref 205), (1, .int (nI (j + 1)))] dX14_isBeforeUnlike_25 rfl (nI_add j 1) (by decide) rfl rfl ?_
          refine x_goto 5 dX14_isBeforeUnlike_28 (by decide) ?_
          exact absurd (by unfold isB; omega) hnb
        · rw [show (32 : Int32) = nI 32 from rfl, nI_eq (by omega) (by omega)] at c_12
          refine x_aload_n dX14_isBeforeUnlike_15 rfl ?_
          refine x_iload_n dX14_isBeforeUnlike_16 rfl ?_
          refine x_callV (As := [.int (nI j)]) (st := []) lv_X14_110 (k_X14_byteAt M hT h19 (by omega)) dX14_isBeforeUnlike_17 M.o rfl rfl (Nat.le_of_ble_eq_true rfl) ⟨by decide, by decide⟩ ⟨by decide, by decide⟩ (fun v9 h9 z => ?_) (fun _ _ _ _ _ z => by cases z.1)
          rw [bA_lt (show j < n by omega)] at z
          obtain ⟨ev, eh⟩ := z
          rw [eh]
          cases ev
          refine x_bipush (v := 10) dX14_isBeforeUnlike_20 (by decide) ?_
          refine x_icmp_ne 31 dX14_isBeforeUnlike_22 (by decide) (fun c_22 => ?_) (fun c_22 => ?_)
          · rw [show (10 : Int32) = nI 10 from rfl, nI_eq (by omega) (by omega)] at c_22
            refine x_aload_n dX14_isBeforeUnlike_31 rfl ?_
            refine x_iload_n dX14_isBeforeUnlike_32 rfl ?_
            refine x_callV (As := [.int (nI j)]) (st := []) lv_X14_110 (k_X14_byteAt M hT h19 (by omega)) dX14_isBeforeUnlike_33 M.o rfl rfl (Nat.le_of_ble_eq_true rfl) ⟨by decide, by decide⟩ ⟨by decide, by decide⟩ (fun v9 h9 z => ?_) (fun _ _ _ _ _ z => by cases z.1)
            rw [bA_lt (show j < n by omega)] at z
            obtain ⟨ev, eh⟩ := z
            rw [eh]
            cases ev
            refine x_bipush (v := 35) dX14_isBeforeUnlike_36 (by decide) ?_
            refine x_icmp_ne 45 dX14_isBeforeUnlike_38 (by decide) (fun c_38 => ?_) (fun c_38 => ?_)
            · rw [show (35 : Int32) = nI 35 from rfl, nI_eq (by omega) (by omega)] at c_38
              refine x_iconst (v := 0) dX14_isBeforeUnlike_45 (by decide) ?_
              exact x_iret dX14_isBeforeUnlike_46 rfl rfl (Nat.le_refl _) (Nat.le_refl _) (xAsk_f (fun z => by have y := lx_35 hlx z; rw [← show j = t.2.1 by omega] at y; exact c_38 y))
            · rw [show (35 : Int32) = nI 35 from rfl, nI_eq (by omega) (by omega)] at c_38
              refine x_iconst (v := 1) dX14_isBeforeUnlike_41 (by decide) ?_
              refine x_goto 46 dX14_isBeforeUnlike_42 (by decide) ?_
              exact x_iret dX14_isBeforeUnlike_46 rfl rfl (Nat.le_refl _) (Nat.le_refl _) (xAsk_t (by obtain ⟨y1, y2⟩ := lx_mrk hlx (by omega) (by unfold isM; rw [← show j = t.2.1 by omega]; omega); rw [y1, ← show j = t.2.1 by omega]; omega))
          · rw [show (10 : Int32) = nI 10 from rfl, nI_eq (by omega) (by omega)] at c_22
            refine x_iinc (v := nI (j + 1)) [(0, .ref 205), (1, .int (nI (j + 1)))] dX14_isBeforeUnlike_25 rfl (nI_add j 1) (by decide) rfl rfl ?_
            refine x_goto 5 dX14_isBeforeUnlike_28 (by decide) ?_
            exact absurd (by unfold isB; omega) hnb
set_option maxRecDepth 100000 in
set_option maxHeartbeats 4000000 in
theorem k_X14_unl {G : xG} {h : xHp} {g : Nat → Int32} {w : Int64} {nw : Value} {ar : Nat → Nat → Int32} {tw : Nat → Int64} {kw : Nat → Int64} {rf : Nat → Option Nat} (M : MH h g w nw ar tw kw rf) {b : Nat → Nat} {n : Nat} (hT : tpM ar b n) {t : Tk} {p p' : Nat} (hx : lexR b n p t p') (h19 : g 19 = nI n) (h20 : g 20 = nI p) : MX G mX14_isBeforeUnlike 2 0 0 [.ref 205] h (xAsk (t.1 = 35) h) := by
  refine MX.of [(0, .ref 205)] (by decide) rfl (Nat.le_of_ble_eq_true rfl) rfl ?_
  refine x_aload_n dX14_isBeforeUnlike_0 rfl ?_
  refine x_get lf_X14_107 dX14_isBeforeUnlike_1 M.o rfl ?_
  refine x_top (y := nI p) h20 ?_
  refine x_istore_n [(0, .ref 205), (1, .int (nI p))] dX14_isBeforeUnlike_4 (by decide) rfl rfl ?_
  exact l_X14_unl M hT hx h19 (n + 2) p (Nat.le_refl _) hx.1 (by have := hx.2.1; omega)
