/-! the reference: why -/
theorem rsW_s {v : RV} {τ : Nat → Nat} {f : Nat → Int32} {i : Nat} {x : Int32} (h : ∀ j, j < i → f j = if v.2.1 j 0 = 2 then -2 else nI (nmT (v.2.1 j) τ)) (hx : x = if v.2.1 i 0 = 2 then -2 else nI (nmT (v.2.1 i) τ)) : ∀ j, j < i + 1 → upd f i x j = if v.2.1 j 0 = 2 then -2 else nI (nmT (v.2.1 j) τ) := fun j hj => by
  by_cases z : j = i
  · rw [z, upd_at9, hx]
  · rw [upd_nq z]; exact h j (by omega)
set_option maxRecDepth 100000 in
set_option maxHeartbeats 4000000 in
theorem l_X14_why3 {G : xG} {Q : Option Value ⊕ Nat → xHp → Prop} {h : xHp} {g : Nat → Int32} {w : Int64} {nw : Value} {ar : Nat → Nat → Int32} {tw kw : Nat → Int64} {rf : Nat → Option Nat} {nt : Nat} (hn : nt ≤ 10) {a : Nat} (ha : 227 ≤ a) {v : RV} (hv : okRl nt v) (hsg : sgR v) (rv : rmV h a v) {r n9 x : Nat} (hr20 : r < 20) (hra : rf r = some a) {τ : Nat → Nat} (h36 : g 36 = nI v.2.2.1) (hQ : ∀ h' ar', yfr h h' → MH h' (upd (upd g 1 0) 2 (-1)) w nw ar' tw kw rf → (∀ c, c ≠ 221 → ar' c = ar c) → rsW v τ (ar' 221) → Q (.inl (some (.int (nI r)))) h') : ∀ (m i : Nat) {h1 : xHp} {ar1 : Nat → Nat → Int32}, i ≤ v.2.2.1 → v.2.2.1 + 1 ≤ i + m → MH h1 g w nw ar1 tw kw rf → yfr h h1 → (∀ c, c ≠ 221 → ar1 c = ar c) → gvT (ar1 220) nt v.2.2.2.2 τ → (∀ j, j < i → ar1 221 j = if v.2.1 j 0 = 2 then -2 else nI (nmT (v.2.1 j) τ)) → Wx G mX14_why (xRm 12 0 0) (xF G Q 0 0) 0 0 159 [(0, .ref 205), (1, .int (nI n9)), (2, .int (nI r)), (3, .int (nI (nt ^ v.2.2.2.2))), (4, .int (nI x)), (5, .int (nI i))] [] h1 := by
  intro m
  induction m with
  | zero => intro i h1 ar1 a1 a2; exact absurd a2 (by omega)
  | succ m ih =>
    intro i h1 ar1 hi1 hi2 M1 Y1 ak1 gv1 hr1
    have hz4 := hv.1
    have rv1 := rv.yf Y1 ha
    obtain ⟨so, kd, on, tz, lt, rc9, rI⟩ := id rv1
    refine x_iload dX14_why_159 rfl ?_
    refine x_aload_n dX14_why_161 rfl ?_
    refine x_get lf_X14_303 dX14_why_162 M1.o rfl ?_
    refine x_top (y := nI v.2.2.1) h36 ?_
    refine x_icmp_ge 218 dX14_why_165 (by decide) (fun c_165 => ?_) (fun c_165 => ?_)
    · rw [nI_leI (by omega) (by omega)] at c_165
      refine x_aload_n dX14_why_218 rfl ?_
      refine x_iload_n dX14_why_219 rfl ?_
      refine x_callV (As := [.int (nI r)]) (st := []) lv_X14_229 (k_X14_done M1) dX14_why_220 M1.o rfl rfl (Nat.le_of_ble_eq_true rfl) ⟨by decide, by decide⟩ ⟨by decide, by decide⟩ (fun v9 h9 z => ?_) (fun _ _ _ _ _ z => by cases z.1)
      obtain ⟨ev, Y9, M9⟩ := z
      cases ev
      exact x_iret dX14_why_223 rfl rfl (Nat.le_refl _) (Nat.le_refl _) (hQ _ ar1 (Y1.tr Y9) M9 ak1 (fun j hj => hr1 j (by omega)))
    · rw [nI_leI (by omega) (by omega)] at c_165
      have hi9 : i < v.2.2.1 := by omega
      have ht := hv.2.1 i hi9
      have r9 := rmI_t rI hi9
      refine x_aload_n dX14_why_168 rfl ?_
      refine x_get lf_X14_69 dX14_why_169 M1.o rfl ?_
      refine x_iload dX14_why_172 rfl ?_
      refine x_aload_n dX14_why_174 rfl ?_
      refine x_get lf_X14_42 dX14_why_175 M1.o rfl ?_
      refine x_iload_n dX14_why_178 rfl ?_
      refine x_aaldN (b := a) (j := r) M1.r rfl rfl (by omega) (by decide) hra dX14_why_179 ?_
      refine x_get lf_X14_169 dX14_why_180 rc9.1 rfl ?_
      refine x_iload dX14_why_183 rfl ?_
      refine x_iconst (v := 1) dX14_why_185 (by decide) ?_
      refine x_iadd dX14_why_186 ?_
      refine x_top (y := nI (i + 1)) (nI_add i 1) ?_
      refine x_ialdN (j := i + 1) rc9.2.1 rfl (by omega) (by decide) dX14_why_187 ?_
      refine x_top r9.1 ?_
      refine x_iconst (v := 2) dX14_why_188 (by decide) ?_
      refine x_icmp_ne 197 dX14_why_189 (by decide) (fun c_189 => ?_) (fun c_189 => ?_)
      · refine x_aload_n dX14_why_197 rfl ?_
        refine x_aload_n dX14_why_198 rfl ?_
        refine x_get lf_X14_42 dX14_why_199 M1.o rfl ?_
        refine x_iload_n dX14_why_202 rfl ?_
        refine x_aaldN (b := a) (j := r) M1.r rfl rfl (by omega) (by decide) hra dX14_why_203 ?_
        refine x_iload dX14_why_204 rfl ?_
        refine x_iconst (v := 1) dX14_why_206 (by decide) ?_
        refine x_iadd dX14_why_207 ?_
        refine x_top (y := nI (i + 1)) (nI_add i 1) ?_
        refine x_callV (As := [.ref a, .int (nI (i + 1))]) (st := [.int (nI i), .ref 221]) lv_X14_273 (k_X14_atomT M1 gv1 hn rv1 hv (i := i + 1) hi9 (ht.2.1 c_189).1 (ht.2.1 c_189).2 ht.2.2.1 ht.2.2.2 (fun s h1 h2 => hsg.2 (i + 1) s hi9 h1 h2)) dX14_why_208 M1.o rfl rfl (Nat.le_of_ble_eq_true rfl) ⟨by decide, by decide⟩ ⟨by decide, by decide⟩ (fun v9 h9 z => ?_) (fun _ _ _ _ _ z => by cases z.1)
        obtain ⟨ev, eh⟩ := z
        rw [eh]
        cases ev
        refine x_top (y := nI (nmT (v.2.1 i) τ)) rfl ?_
        refine x_iastN (j := i) (M1.a 221 0 4 rfl) rfl (by omega) (by decide) dX14_why_211 ?_
        refine x_iinc (v := nI (i + 1)) [(0, .ref 205), (1, .int (nI n9)), (2, .int (nI r)), (3, .int (nI (nt ^ v.2.2.2.2))), (4, .int (nI x)), (5, .int (nI (i + 1)))] dX14_why_212 rfl (nI_add i 1) (by decide) rfl rfl ?_
        refine x_goto 159 dX14_why_215 (by decide) ?_
        exact ih (i + 1) (by omega) (by omega) (M1.a9 (c := 221) rfl (upd (ar1 221) i (nI (nmT (v.2.1 i) τ)))) (Y1.tr ((yfr_rf _).up (by decide))) (fun c a1 => (apF_ne a1).trans (ak1 c a1)) (by rw [apF_ne (by decide)]; exact gv1) (fun j hj => (congrFun (apF_at _ _ _) j).trans (rsW_s hr1 (by first | exact (if_pos (by first | exact c_189 | exact Classical.not_not.mp c_189)).symm | exact (if_neg c_189).symm) j hj))
      · refine x_bipush (v := (-2)) dX14_why_192 (by decide) ?_
        refine x_goto 211 dX14_why_194 (by decide) ?_
        refine x_iastN (j := i) (M1.a 221 0 4 rfl) rfl (by omega) (by decide) dX14_why_211 ?_
        refine x_iinc (v := nI (i + 1)) [(0, .ref 205), (1, .int (nI n9)), (2, .int (nI r)), (3, .int (nI (nt ^ v.2.2.2.2))), (4, .int (nI x)), (5, .int (nI (i + 1)))] dX14_why_212 rfl (nI_add i 1) (by decide) rfl rfl ?_
        refine x_goto 159 dX14_why_215 (by decide) ?_
        exact ih (i + 1) (by omega) (by omega) (M1.a9 (c := 221) rfl (upd (ar1 221) i (-2))) (Y1.tr ((yfr_rf _).up (by decide))) (fun c a1 => (apF_ne a1).trans (ak1 c a1)) (by rw [apF_ne (by decide)]; exact gv1) (fun j hj => (congrFun (apF_at _ _ _) j).trans (rsW_s hr1 (by first | exact (if_pos (by first | exact c_189 | exact Classical.not_not.mp c_189)).symm | exact (if_neg c_189).symm) j hj))
set_option maxRecDepth 100000 in
set_option maxHeartbeats 4000000 in
theorem l_X14_why2 {G : xG} {Q : Option Value ⊕ Nat → xHp → Prop} {h : xHp} {g : Nat → Int32} {w : Int64} {nw : Value} {ar : Nat → Nat → Int32} {tw kw : Nat → Int64} {rf : Nat → Option Nat} {nt : Nat} (hn : nt ≤ 10) {a : Nat} (ha : 227 ≤ a) {v : RV} (hv : okRl nt v) (hsg : sgR v) (hc : cvS v) (h4 : g 4 = nI nt) (rv : rmV h a v) {r n9 d9 : Nat} (hr20 : r < 20) (hra : rf r = some a) (hn9 : n9 < 1000) (hk9 : rvH v = n9 / 100) {s0 : Nat → Option Nat} (hd9 : s0 n9 = some d9) (hQ : ∀ x, x < nt ^ v.2.2.2.2 → leadS v nt s0 n9 d9 (wyT nt v.2.2.2.2 x) → (∀ y, y < x → ¬ leadS v nt s0 n9 d9 (wyT nt v.2.2.2.2 y)) → ∀ h' ar', yfr h h' → MH h' (upd (upd (upd g 36 (nI v.2.2.1)) 1 0) 2 (-1)) w nw ar' tw kw rf → (∀ c, c ≠ 220 → c ≠ 221 → ar' c = ar c) → rsW v (wyT nt v.2.2.2.2 x) (ar' 221) → Q (.inl (some (.int (nI r)))) h') (hcont : ∀ {h1 : xHp} {ar1 : Nat → Nat → Int32}, MH h1 g w nw ar1 tw kw rf → yfr h h1 → (∀ c, c ≠ 220 → ar1 c = ar c) → stO (ar1 219) s0 → (∀ τ, ¬ leadS v nt s0 n9 d9 τ) → Wx G mX14_why (xRm 12 0 0) (xF G Q 0 0) 0 0 230 [(0, .ref 205), (1, .int (nI n9)), (2, .int (nI r))] [] h1) : ∀ (m x : Nat) {h1 : xHp} {ar1 : Nat → Nat → Int32}, x ≤ nt ^ v.2.2.2.2 → nt ^ v.2.2.2.2 + 1 ≤ x + m → MH h1 g w nw ar1 tw kw rf → yfr h h1 → (∀ c, c ≠ 220 → ar1 c = ar c) → stO (ar1 219) s0 → (∀ y, y < x → ¬ leadS v nt s0 n9 d9 (wyT nt v.2.2.2.2 y)) → Wx G mX14_why (xRm 12 0 0) (xF G Q 0 0) 0 0 102 [(0, .ref 205), (1, .int (nI n9)), (2, .int (nI r)), (3, .int (nI (nt ^ v.2.2.2.2))), (4, .int (nI x))] [] h1 := by
  intro m
  induction m with
  | zero => intro x h1 ar1 a1 a2; exact absurd a2 (by omega)
  | succ m ih =>
    intro x h1 ar1 hx hx2 M1 Y1 ak1 hs1 hno
    have hpw9 := pw_1000 hn hsg.1
    have rv1 := rv.yf Y1 ha
    obtain ⟨so, kd, on, tz, lt, rc9, rI⟩ := id rv1
    refine x_iload dX14_why_102 rfl ?_
    refine x_iload_n dX14_why_104 rfl ?_
    refine x_icmp_ge 230 dX14_why_105 (by decide) (fun c_105 => ?_) (fun c_105 => ?_)
    · rw [nI_leI (by omega) (by omega)] at c_105
      exact x_ls _ [0, 1, 2] rfl (hcont M1 Y1 ak1 hs1 (fun τ hl => by obtain ⟨y, y1, y2, y3⟩ := lead_x hn hv hsg hc hl; exact hno y (by omega) y3))
    · rw [nI_leI (by omega) (by omega)] at c_105
      refine x_aload_n dX14_why_108 rfl ?_
      refine x_aload_n dX14_why_109 rfl ?_
      refine x_get lf_X14_42 dX14_why_110 M1.o rfl ?_
      refine x_iload_n dX14_why_113 rfl ?_
      refine x_aaldN (b := a) (j := r) M1.r rfl rfl (by omega) (by decide) hra dX14_why_114 ?_
      refine x_iload dX14_why_115 rfl ?_
      refine x_callV (As := [.ref a, .int (nI x)]) (st := []) lv_X14_295 (k_X14_gives M1 hn h4 ha rv1 hsg.1 (by omega)) dX14_why_117 M1.o rfl rfl (Nat.le_of_ble_eq_true rfl) ⟨by decide, by decide⟩ ⟨by decide, by decide⟩ (fun v9 h2 z => ?_) (fun _ _ _ _ _ z => by cases z.1)
      obtain ⟨ev, Z2, ar2, M2, ak2, gv2⟩ := z
      cases ev
      have rv2 := rv1.yf Z2 ha
      have hs2 : stO (ar2 219) s0 := by rw [ak2 219 (by decide)]; exact hs1
      have hs9 := hs2 n9 hn9
      obtain ⟨so8, kd8, on8, tz8, lt8, rc8, rI8⟩ := id rv2
      refine x_aload_n dX14_why_120 rfl ?_
      refine x_aload_n dX14_why_121 rfl ?_
      refine x_get lf_X14_42 dX14_why_122 M2.o rfl ?_
      refine x_iload_n dX14_why_125 rfl ?_
      refine x_aaldN (b := a) (j := r) M2.r rfl rfl (by omega) (by decide) hra dX14_why_126 ?_
      refine x_iload_n dX14_why_127 rfl ?_
      refine x_aload_n dX14_why_128 rfl ?_
      refine x_get lf_X14_63 dX14_why_129 M2.o rfl ?_
      refine x_iload_n dX14_why_132 rfl ?_
      refine x_ialdN (j := n9) (M2.a 219 0 1000 rfl) rfl (by omega) (by decide) dX14_why_133 ?_
      refine x_top (hs9.1.trans (by rw [hd9])) ?_
      refine x_callV (As := [.ref a, .int (nI n9), .int (nI d9)]) (st := []) lv_X14_299 (k_X14_leads M2 gv2 hn rv2 hv hsg hs2 hn9 (by have := hs9.2 d9 hd9; omega)) dX14_why_134 M2.o rfl rfl (Nat.le_of_ble_eq_true rfl) ⟨by decide, by decide⟩ ⟨by decide, by decide⟩ (fun v9 h9 z => ?_) (fun _ _ _ _ _ z => by obtain ⟨_, z, _⟩ := z; cases z)
      obtain ⟨b9, ev, eh, hb9⟩ := z
      rw [eh]
      cases ev
      rw [← lead_w hn hv hsg hk9 (by omega)] at hb9
      refine x_if_ne 143 dX14_why_137 (by decide) (fun c_137 => ?_) (fun c_137 => ?_)
      · have c_137 := bi_t c_137
        refine x_aload_n dX14_why_143 rfl ?_
        refine x_aload_n dX14_why_144 rfl ?_
        refine x_get lf_X14_42 dX14_why_145 M2.o rfl ?_
        refine x_iload_n dX14_why_148 rfl ?_
        refine x_aaldN (b := a) (j := r) M2.r rfl rfl (by omega) (by decide) hra dX14_why_149 ?_
        refine x_get lf_X14_199 dX14_why_150 rc8.1 rfl ?_
        refine x_put (mL (upd g 36 (nI v.2.2.1)) w nw) lf_X14_303 dX14_why_153 M2.o (Nat.le_of_ble_eq_true rfl) rfl rfl rfl ?_
        refine x_iconst (v := 0) dX14_why_156 (by decide) ?_
        refine x_istore [(0, .ref 205), (1, .int (nI n9)), (2, .int (nI r)), (3, .int (nI (nt ^ v.2.2.2.2))), (4, .int (nI x)), (5, .int 0)] dX14_why_157 (by decide) rfl rfl ?_
        refine l_X14_why3 hn ha hv hsg (rv2.yf ((yfr_rf _).up (by decide)) ha) hr20 hra (upd_at9) (fun h' ar' y1 m1 k1 w1 => hQ x (by omega) (hb9.mp c_137) hno _ ar' ((Y1.tr Z2).tr (((yfr_rf _).up (by decide)).tr y1)) m1 (fun c a1 a2 => (k1 c a2).trans ((ak2 c a1).trans (ak1 c a1))) w1) (v.2.2.1 + 1) 0 (Nat.zero_le _) (by omega) (M2.g9 (upd g 36 (nI v.2.2.1)) w nw) (yfr_rf _) (fun _ _ => rfl) gv2 (fun j hj => absurd hj (Nat.not_lt_zero _))
      · have c_137 := bi_f c_137
        refine x_goto 224 dX14_why_140 (by decide) ?_
        refine x_iinc (v := nI (x + 1)) [(0, .ref 205), (1, .int (nI n9)), (2, .int (nI r)), (3, .int (nI (nt ^ v.2.2.2.2))), (4, .int (nI (x + 1)))] dX14_why_224 rfl (nI_add x 1) (by decide) rfl rfl ?_
        refine x_goto 102 dX14_why_227 (by decide) ?_
        exact ih (x + 1) (by omega) (by omega) M2 (Y1.tr Z2) (fun c a1 => (ak2 c a1).trans (ak1 c a1)) hs2 (fun y hy hh => by by_cases q : y = x; (rw [q] at hh; rw [hb9.mpr hh] at c_137; cases c_137); exact hno y (by omega) hh)
theorem lex_cg {K : Nat} {a a' b b' : Nat → Nat} (h1 : ∀ s, s < K → a s = a' s) (h2 : ∀ s, s < K → b s = b' s) (h : lexL K a b) : lexL K a' b' := by
  rcases h with h | ⟨s, s1, s2, s3⟩
  · exact Or.inl (fun s hs => by rw [← h1 s hs, ← h2 s hs]; exact h s hs)
  · exact Or.inr ⟨s, s1, fun r hr => by rw [← h1 r (by omega), ← h2 r (by omega)]; exact s2 r hr, by rw [← h1 s s1, ← h2 s s1]; exact s3⟩
set_option maxRecDepth 100000 in
set_option maxHeartbeats 4000000 in
theorem l_X14_why1 {G : xG} {Q : Option Value ⊕ Nat → xHp → Prop} {h : xHp} {g : Nat → Int32} {w : Int64} {nw : Value} {ar : Nat → Nat → Int32} {tw kw : Nat → Int64} {rf : Nat → Option Nat} {V : Nat → RV} {rc nt : Nat} (hn : nt ≤ 10) (hrc : rc ≤ 20) (h4 : g 4 = nI nt) (h6 : g 6 = nI rc) (hV : ∀ r, r < rc → okRl nt (V r)) (hT : rmT h rf rc V) (hsR : ∀ r, r < rc → sgR (V r)) (hcS : ∀ r, r < rc → cvS (V r)) (hms : ∀ r, r < rc → mS (V r) (V r).2.2.1 = (V r).2.2.2.2) {n9 d9 : Nat} (hn9 : n9 < 1000) {s0 : Nat → Option Nat} (hd9 : s0 n9 = some d9) (hex : ∃ r, r < rc ∧ rvH (V r) = n9 / 100 ∧ ∃ τ, leadS (V r) nt s0 n9 d9 τ) (hQ : ∀ r τ, whyP V rc nt s0 n9 d9 r τ → ∀ h' ar', yfr h h' → MH h' (upd (upd (upd g 36 (nI (V r).2.2.1)) 1 0) 2 (-1)) w nw ar' tw kw rf → (∀ c, c ≠ 220 → c ≠ 221 → ar' c = ar c) → rsW (V r) τ (ar' 221) → Q (.inl (some (.int (nI r)))) h') : ∀ (m r : Nat) {h1 : xHp} {ar1 : Nat → Nat → Int32}, r ≤ rc → rc + 1 ≤ r + m → MH h1 g w nw ar1 tw kw rf → yfr h h1 → (∀ c, c ≠ 220 → ar1 c = ar c) → stO (ar1 219) s0 → (∀ r', r' < r → rvH (V r') = n9 / 100 → ∀ τ, ¬ leadS (V r') nt s0 n9 d9 τ) → Wx G mX14_why (xRm 12 0 0) (xF G Q 0 0) 0 0 59 [(0, .ref 205), (1, .int (nI n9)), (2, .int (nI r))] [] h1 := by
  intro m
  induction m with
  | zero => intro r h1 ar1 a1 a2; exact absurd a2 (by omega)
  | succ m ih =>
    intro r h1 ar1 hr hr2 M1 Y1 ak1 hs1 hno
    refine x_iload_n dX14_why_59 rfl ?_
    refine x_aload_n dX14_why_60 rfl ?_
    refine x_get lf_X14_93 dX14_why_61 M1.o rfl ?_
    refine x_top (y := nI rc) h6 ?_
    refine x_icmp_ge 236 dX14_why_64 (by decide) (fun c_64 => ?_) (fun c_64 => ?_)
    · rw [nI_leI (by omega) (by omega)] at c_64
      obtain ⟨r8, r1, r2, τ, r3⟩ := hex
      exact absurd r3 (hno r8 (by omega) r2 τ)
    · rw [nI_leI (by omega) (by omega)] at c_64
      have hr9 : r < rc := by omega
      obtain ⟨a, hra, ha, ha2, rv⟩ := (hT.y Y1) r hr9
      have hv := hV r hr9
      have hsg := hsR r hr9
      have hc := hcS r hr9
      obtain ⟨so, kd, on, tz, lt, rc9, rI⟩ := id rv
      have hv2 : rvH (V r) < 10 := hv.2.2.1.2
      have z1 : kd 0 = nI (rvH (V r)) := (rI 0 (Nat.zero_le _)).2.1.trans hv.2.2.1.1
      refine x_aload_n dX14_why_67 rfl ?_
      refine x_get lf_X14_42 dX14_why_68 M1.o rfl ?_
      refine x_iload_n dX14_why_71 rfl ?_
      refine x_aaldN (b := a) (j := r) M1.r rfl rfl (by omega) (by decide) hra dX14_why_72 ?_
      refine x_get lf_X14_171 dX14_why_73 rc9.1 rfl ?_
      refine x_iconst (v := 0) dX14_why_76 (by decide) ?_
      refine x_ialdN (j := 0) rc9.2.2.1 rfl (by omega) (by decide) dX14_why_77 ?_
      refine x_top z1 ?_
      refine x_iload_n dX14_why_78 rfl ?_
      refine x_bipush (v := 100) dX14_why_79 (by decide) ?_
      refine x_idiv dX14_why_81 (by decide) ?_
      refine x_top (y := nI (n9 / 100)) (pk_div (a := n9) (d := 100) (by omega) (by omega) (by omega)) ?_
      refine x_icmp_eq 88 dX14_why_82 (by decide) (fun c_82 => ?_) (fun c_82 => ?_)
      · rw [nI_eq (by omega) (by omega)] at c_82
        refine x_aload_n dX14_why_88 rfl ?_
        refine x_aload_n dX14_why_89 rfl ?_
        refine x_get lf_X14_42 dX14_why_90 M1.o rfl ?_
        refine x_iload_n dX14_why_93 rfl ?_
        refine x_aaldN (b := a) (j := r) M1.r rfl rfl (by omega) (by decide) hra dX14_why_94 ?_
        refine x_callV (As := [.ref a]) (st := []) lv_X14_291 (k_X14_ways M1 hn h4 ha rv hsg.1) dX14_why_95 M1.o rfl rfl (Nat.le_of_ble_eq_true rfl) ⟨by decide, by decide⟩ ⟨by decide, by decide⟩ (fun v9 h9 z => ?_) (fun _ _ _ _ _ z => by cases z.1)
        obtain ⟨ev, eh⟩ := z
        rw [eh]
        cases ev
        refine x_istore_n [(0, .ref 205), (1, .int (nI n9)), (2, .int (nI r)), (3, .int (nI (nt ^ (V r).2.2.2.2)))] dX14_why_98 (by decide) rfl rfl ?_
        refine x_iconst (v := 0) dX14_why_99 (by decide) ?_
        refine x_istore [(0, .ref 205), (1, .int (nI n9)), (2, .int (nI r)), (3, .int (nI (nt ^ (V r).2.2.2.2))), (4, .int 0)] dX14_why_100 (by decide) rfl rfl ?_
        refine l_X14_why2 hn ha hv hsg hc h4 rv (by omega) hra hn9 (by first | exact c_82 | exact Classical.not_not.mp c_82) hd9 (fun x x1 x2 x3 h' ar' y1 m1 k1 w1 => hQ r _ ⟨hr9, by first | exact c_82 | exact Classical.not_not.mp c_82, x2, hno, fun τ' hl => by obtain ⟨y, q1, q2, q3⟩ := lead_x hn hv hsg hc hl; have hxy : x ≤ y := Nat.le_of_not_lt (fun z => x3 y z q3); rw [hms r hr9]; exact lex_cg (fun s hs => rfl) q2 (wy_le hxy q1)⟩ _ ar' (Y1.tr y1) m1 (fun c a1 a2 => (k1 c a1 a2).trans (ak1 c a1)) w1) (fun {h2} {ar2} M2 Z2 ak2 hs2 hl => ?_) (nt ^ (V r).2.2.2.2 + 1) 0 (Nat.zero_le _) (by omega) M1 (yfr_rf _) (fun _ _ => rfl) hs1 (fun y hy => absurd hy (Nat.not_lt_zero _))
        refine x_iinc (v := nI (r + 1)) [(0, .ref 205), (1, .int (nI n9)), (2, .int (nI (r + 1)))] dX14_why_230 rfl (nI_add r 1) (by decide) rfl rfl ?_
        refine x_goto 59 dX14_why_233 (by decide) ?_
        exact ih (r + 1) (by omega) (by omega) M2 (Y1.tr Z2) (fun c a1 => (ak2 c a1).trans (ak1 c a1)) hs2 (fun r' hr' hk' => by by_cases q : r' = r; (rw [q]; exact hl); exact hno r' (by omega) hk')
      · rw [nI_eq (by omega) (by omega)] at c_82
        refine x_goto 230 dX14_why_85 (by decide) ?_
        refine x_iinc (v := nI (r + 1)) [(0, .ref 205), (1, .int (nI n9)), (2, .int (nI (r + 1)))] dX14_why_230 rfl (nI_add r 1) (by decide) rfl rfl ?_
        refine x_goto 59 dX14_why_233 (by decide) ?_
        exact ih (r + 1) (by omega) (by omega) M1 Y1 ak1 hs1 (fun r' hr' hk' => by by_cases q : r' = r; (rw [q] at hk'; exact absurd hk' c_82); exact hno r' (by omega) hk')
set_option maxRecDepth 100000 in
set_option maxHeartbeats 4000000 in
theorem k_X14_why {G : xG} {h : xHp} {g : Nat → Int32} {w : Int64} {nw : Value} {ar : Nat → Nat → Int32} {tw : Nat → Int64} {kw : Nat → Int64} {rf : Nat → Option Nat} (M : MH h g w nw ar tw kw rf) {S : Nat → Bool} {V : Nat → RV} {rc nt : Nat} {s0 : Nat → Option Nat} (hs : IsSt S V rc (uR (-1)) nt s0) (hV : ∀ r, r < rc → okRl nt (V r)) (hn : nt ≤ 10) (hrc : rc ≤ 20) (h6 : g 6 = nI rc) (hT : rmT h rf rc V) (hcv : ∀ r, r < rc → covR (V r)) (hpw : pwA V rc nt s0) (hK : ∀ r, r < rc → okK (V r)) (hsat : ∃ S9, Sat V rc S9) (h12 : ∀ j, j < 1000 → ar 212 j = bi (S j)) {nk : Nat} {pc : Nat → Nat} (h4 : g 4 = nI nt) (h5 : g 5 = nI nk) (hnk : nk ≤ 10) (hpc : ∀ k, k < nk → ar 210 k = nI (pc k) ∧ pc k < 3) (hsR : ∀ r, r < rc → sgR (V r)) (hcS : ∀ r, r < rc → cvS (V r)) (hms : ∀ r, r < rc → mS (V r) (V r).2.2.1 = (V r).2.2.2.2) (hex : ∀ n d, n < 1000 → s0 n = some d → S n = false → ∃ r, r < rc ∧ rvH (V r) = n / 100 ∧ ∃ τ, leadS (V r) nt s0 n d τ) {a9 : Int32} : MX G mX14_why 12 0 0 [.ref 205, .int a9] h (fun o h' => ∃ r, o = .inl (some (.int r)) ∧ yfr h h' ∧ (((¬ ∃ n, a9 = nI n ∧ n < 2 ^ 31 ∧ okAtom nk nt pc n) ∧ r = -1 ∧ MH h' (upd (upd (upd g 0 0) 1 1) 2 (-1)) w nw ar tw kw rf) ∨ (∃ n, a9 = nI n ∧ okAtom nk nt pc n ∧ ((s0 n = none ∧ r = -1 ∧ ∃ g' ar', MH h' g' w nw ar' tw kw rf ∧ (g' 0 = 0 ∧ g' 1 = 5 ∧ g' 2 = -1 ∧ ∀ k, k ≠ 0 → k ≠ 1 → k ≠ 2 → k ≠ 34 → g' k = g k) ∧ ∀ c, c ≠ 211 → c ≠ 219 → c ≠ 220 → ar' c = ar c) ∨ (S n = true ∧ r = -2 ∧ ∃ g' ar', MH h' g' w nw ar' tw kw rf ∧ (g' 0 = 0 ∧ g' 1 = 0 ∧ g' 2 = -1 ∧ ∀ k, k ≠ 0 → k ≠ 1 → k ≠ 2 → k ≠ 34 → g' k = g k) ∧ ∀ c, c ≠ 211 → c ≠ 219 → c ≠ 220 → ar' c = ar c) ∨ (S n = false ∧ ∃ d ρ τ, s0 n = some d ∧ whyP V rc nt s0 n d ρ τ ∧ r = nI ρ ∧ ∃ g' ar', MH h' g' w nw ar' tw kw rf ∧ (g' 0 = 0 ∧ g' 1 = 0 ∧ g' 2 = -1 ∧ g' 36 = nI (V ρ).2.2.1 ∧ ∀ k, k ≠ 0 → k ≠ 1 → k ≠ 2 → k ≠ 34 → k ≠ 36 → g' k = g k) ∧ rsW (V ρ) τ (ar' 221) ∧ ∀ c, c ≠ 211 → c ≠ 219 → c ≠ 220 → c ≠ 221 → ar' c = ar c))))) := by
  refine MX.of [(0, .ref 205), (1, .int a9)] (by decide) rfl (Nat.le_of_ble_eq_true rfl) rfl ?_
  refine x_aload_n dX14_why_0 rfl ?_
  refine x_iconst (v := 0) dX14_why_1 (by decide) ?_
  refine x_put (mL (upd g 0 0) w nw) lf_X14_84 dX14_why_2 M.o (Nat.le_of_ble_eq_true rfl) rfl rfl rfl ?_
  refine x_aload_n dX14_why_5 rfl ?_
  refine x_iload_n dX14_why_6 rfl ?_
  refine x_callV (As := [.int a9]) (st := []) lv_X14_239 (k_X14_isAtom (M.g9 (upd g 0 0) w nw) ((upd_nq (by decide)).trans h4) ((upd_nq (by decide)).trans h5) hpc hnk hn) dX14_why_7 (xup_self _ _ _) rfl rfl (Nat.le_of_ble_eq_true rfl) ⟨by decide, by decide⟩ ⟨by decide, by decide⟩ (fun v9 h9 z => ?_) (fun _ _ _ _ _ z => by obtain ⟨_, z, _⟩ := z; cases z)
  obtain ⟨b9, ev, eh, hb9⟩ := z
  rw [eh]
  cases ev
  refine x_if_ne 19 dX14_why_10 (by decide) (fun c_10 => ?_) (fun c_10 => ?_)
  · have c_10 := bi_t c_10
    obtain ⟨n9, ea, hn31, hok⟩ := hb9.mp (by first | exact c_10 | exact bi_t c_10)
    have hn9 : n9 < 1000 := by have := hok.1; omega
    subst ea
    refine x_aload_n dX14_why_19 rfl ?_
    refine x_iconst (v := (-1)) dX14_why_20 (by decide) ?_
    have Y1 : yfr h (xup h 205 (.inr (14, mL (upd g 0 0) w nw))) := ((yfr_rf _).up (by decide))
    refine x_callV (As := [.int (-1)]) (st := []) lv_X14_284 (k_X14_works (M.g9 (upd g 0 0) w nw) hs hV hn hrc ((upd_nq (by decide)).trans h6) (hT.y Y1) hcv hpw hK hsat h12) dX14_why_21 (xup_self _ _ _) rfl rfl (Nat.le_of_ble_eq_true rfl) ⟨by decide, by decide⟩ ⟨by decide, by decide⟩ (fun v9 h1 z => ?_) (fun _ _ _ _ _ z => by cases z.1)
    obtain ⟨ev, g1, ar1, M1, Z1, gk1, ak1, hst1⟩ := z
    cases ev
    have Y1 := Y1.tr Z1
    refine x_aload_n dX14_why_24 rfl ?_
    have hs9 := hst1 n9 hn9
    have hS1 : ar1 212 n9 = bi (S n9) := (congrFun (ak1 212 (by decide) (by decide) (by decide)) n9).trans (h12 n9 hn9)
    refine x_get lf_X14_63 dX14_why_25 M1.o rfl ?_
    refine x_iload_n dX14_why_28 rfl ?_
    refine x_ialdN (j := n9) (M1.a 219 0 1000 rfl) rfl (by omega) (by decide) dX14_why_29 ?_
    refine x_top hs9.1 ?_
    refine x_ldc kc_X14_253 dX14_why_30 ?_
    refine x_icmp_lt 41 dX14_why_32 (by decide) (fun c_32 => ?_) (fun c_32 => ?_)
    · refine x_aload_n dX14_why_41 rfl ?_
      refine x_get lf_X14_33 dX14_why_42 M1.o rfl ?_
      refine x_iload_n dX14_why_45 rfl ?_
      refine x_zaldN (j := n9) (M1.a 212 3 1000 rfl) rfl (by omega) (by decide) dX14_why_46 ?_
      refine x_top hS1 ?_
      refine x_if_eq 57 dX14_why_47 (by decide) (fun c_47 => ?_) (fun c_47 => ?_)
      · have c_47 := bi_f c_47
        refine x_iconst (v := 0) dX14_why_57 (by decide) ?_
        refine x_istore_n [(0, .ref 205), (1, .int (nI n9)), (2, .int 0)] dX14_why_58 (by decide) rfl rfl ?_
        obtain ⟨d9, hd9⟩ : ∃ d, s0 n9 = some d := by cases z : s0 n9 with | none => exact absurd z ((enS_l hs9.2).mp c_32) | some d => exact ⟨d, rfl⟩
        exact l_X14_why1 hn hrc ((gk1 4 (by decide)).trans ((upd_nq (by decide)).trans h4)) ((gk1 6 (by decide)).trans ((upd_nq (by decide)).trans h6)) hV (hT.y Y1) hsR hcS hms hn9 hd9 (hex n9 d9 hn9 hd9 c_47) (fun r τ hw h' ar' y1 m1 k1 w1 => ⟨_, rfl, Y1.tr y1, Or.inr ⟨n9, rfl, hok, Or.inr (Or.inr ⟨c_47, d9, r, τ, hd9, hw, rfl, _, ar', m1, ⟨(upd_nq (by decide)).trans ((upd_nq (by decide)).trans ((upd_nq (by decide)).trans ((gk1 0 (by decide)).trans rfl))), rfl, rfl, rfl, fun k a0 a1 a2 a3 a4 => (upd_nq a2).trans ((upd_nq a1).trans ((upd_nq a4).trans ((gk1 k a3).trans (upd_nq a0))))⟩, w1, fun c b1 b2 b3 b4 => (k1 c b3 b4).trans (ak1 c b1 b2 b3)⟩)⟩⟩) (rc + 1) 0 (Nat.zero_le _) (by omega) M1 (yfr_rf _) (fun _ _ => rfl) hst1 (fun r' hr' => absurd hr' (Nat.not_lt_zero _))
      · have c_47 := bi_t c_47
        refine x_aload_n dX14_why_50 rfl ?_
        refine x_bipush (v := (-2)) dX14_why_51 (by decide) ?_
        refine x_callV (As := [.int (-2)]) (st := []) lv_X14_229 (k_X14_done M1) dX14_why_53 M1.o rfl rfl (Nat.le_of_ble_eq_true rfl) ⟨by decide, by decide⟩ ⟨by decide, by decide⟩ (fun v9 h9 z => ?_) (fun _ _ _ _ _ z => by cases z.1)
        obtain ⟨ev, Y9, M9⟩ := z
        cases ev
        exact x_iret dX14_why_56 rfl rfl (Nat.le_refl _) (Nat.le_refl _) ⟨_, rfl, Y1.tr Y9, Or.inr ⟨n9, rfl, hok, Or.inr (Or.inl ⟨c_47, rfl, _, ar1, M9, ⟨(upd_nq (by decide)).trans ((upd_nq (by decide)).trans ((gk1 0 (by decide)).trans rfl)), rfl, rfl, fun k a0 a1 a2 a3 => (upd_nq a2).trans ((upd_nq a1).trans ((gk1 k a3).trans (upd_nq a0)))⟩, ak1⟩)⟩⟩
    · refine x_aload_n dX14_why_35 rfl ?_
      refine x_iconst (v := 5) dX14_why_36 (by decide) ?_
      refine x_callV (As := [.int 5]) (st := []) lv_X14_214 (k_X14_refused M1) dX14_why_37 M1.o rfl rfl (Nat.le_of_ble_eq_true rfl) ⟨by decide, by decide⟩ ⟨by decide, by decide⟩ (fun v9 h9 z => ?_) (fun _ _ _ _ _ z => by cases z.1)
      obtain ⟨ev, Y9, M9⟩ := z
      cases ev
      exact x_iret dX14_why_40 rfl rfl (Nat.le_refl _) (Nat.le_refl _) ⟨_, rfl, Y1.tr Y9, Or.inr ⟨n9, rfl, hok, Or.inl ⟨Classical.byContradiction (fun z => c_32 ((enS_l hs9.2).mpr z)), rfl, _, ar1, M9, ⟨(upd_nq (by decide)).trans ((upd_nq (by decide)).trans ((gk1 0 (by decide)).trans rfl)), rfl, rfl, fun k a0 a1 a2 a3 => (upd_nq a2).trans ((upd_nq a1).trans ((gk1 k a3).trans (upd_nq a0)))⟩, ak1⟩⟩⟩
  · have c_10 := bi_f c_10
    refine x_aload_n dX14_why_13 rfl ?_
    refine x_iconst (v := 1) dX14_why_14 (by decide) ?_
    have Y8 : yfr h (xup h 205 (.inr (14, mL (upd g 0 0) w nw))) := ((yfr_rf _).up (by decide))
    refine x_callV (As := [.int 1]) (st := []) lv_X14_214 (k_X14_refused (M.g9 (upd g 0 0) w nw)) dX14_why_15 (xup_self _ _ _) rfl rfl (Nat.le_of_ble_eq_true rfl) ⟨by decide, by decide⟩ ⟨by decide, by decide⟩ (fun v9 h9 z => ?_) (fun _ _ _ _ _ z => by cases z.1)
    obtain ⟨ev, Y9, M9⟩ := z
    cases ev
    exact x_iret dX14_why_18 rfl rfl (Nat.le_refl _) (Nat.le_refl _) ⟨_, rfl, Y8.tr Y9, Or.inl ⟨fun z => (by have := hb9.mpr z; first | (rw [this] at c_10; cases c_10; done) | (rw [this] at c_10; exact absurd c_10 (by decide))), rfl, M9⟩⟩
