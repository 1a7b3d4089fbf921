/-! the reference: goes, its loop -/
theorem enT_upd {f : Nat → Int32} {θ : Nat → Option Nat} (h : ∀ k, k < 3 → f k = enT (θ k)) (s x : Nat) : ∀ k, k < 3 → upd f s (nI x) k = enT (if k = s then some x else θ k) := fun k hk => by
  by_cases z : k = s
  · rw [if_pos z, z, upd_at9]; rfl
  · rw [if_neg z, upd_nq z]; exact h k hk
theorem enT_st {f : Nat → Int32} {θ : Nat → Option Nat} {a : Int32} {s x : Nat} (hs : s < 3) (ea : a = nI (100 + s)) (h : ∀ k, k < 3 → f k = enT (θ k)) : ∀ k, k < 3 → upd f s (nI x) k = enT (stθ a x θ k) := by rw [ea, stθ_sg hs]; exact enT_upd h s x
theorem enT_st0 {f : Nat → Int32} {θ : Nat → Option Nat} {a : Int32} {x : Nat} (c : a < 100) (h : ∀ k, k < 3 → f k = enT (θ k)) : ∀ k, k < 3 → f k = enT (stθ a x θ k) := by rw [stθ_lt c]; exact h
theorem stθ_nq {nt : Nat} {a : Int32} {x k : Nat} {θ : Nat → Option Nat} (ha : okA nt a) (hn : nt ≤ 10) (h : ∀ s, s < 3 → a = nI (100 + s) → k ≠ s) : stθ a x θ k = θ k := by
  by_cases c : a < 100
  · rw [stθ_lt c]
  · obtain ⟨s, hs, e⟩ := okA_ge ha hn c
    rw [e, stθ_sg hs]
    exact if_neg (h s hs e)
def CLn (v : RV) (nt : Nat) (θ : Nat → Option Nat) (j deep : Nat) (s : Nat → Option Nat) (n : Nat) : Prop := ∀ τ e, extT θ τ → okT v nt τ → holdS v τ s → deep ≤ e → (∀ m, j ≤ m → m < v.2.2.1 → v.2.1 m 0 = 0 → ∃ d, s (nmT (v.2.1 m) τ) = some d ∧ d ≤ e) → nmT (v.2.1 j) τ < n → ∃ d, s (nmT v.1 τ) = some d ∧ d ≤ e + 1
theorem CLn_0 {v : RV} {nt : Nat} {θ : Nat → Option Nat} {j deep : Nat} {s : Nat → Option Nat} : CLn v nt θ j deep s (100 * (v.2.1 j 1).toNatClampNeg) := fun τ e _ _ _ _ _ h => by
  have h : ((v.2.1 j 1).toNatClampNeg * 10 + thT (v.2.1 j 2) τ) * 10 + thT (v.2.1 j 3) τ < 100 * (v.2.1 j 1).toNatClampNeg := h
  omega
theorem CLn_end {v : RV} {nt : Nat} {θ : Nat → Option Nat} {j deep : Nat} {s : Nat → Option Nat} (ht : okTm nt (v.2.1 j)) (hj : j < v.2.2.1) (hn : nt ≤ 10) (h : CLn v nt θ j deep s (100 * (v.2.1 j 1).toNatClampNeg + 100)) : CLo v nt θ j deep s := fun τ e h1 h2 h3 h4 h5 => h τ e h1 h2 h3 h4 h5 (by
  have a := thT_lt (τ := τ) ht.2.2.1 hn (fun s hs z => Nat.lt_of_lt_of_le (h2 s hs ⟨j, hj, Or.inl z⟩) hn)
  have b := thT_lt (τ := τ) ht.2.2.2 hn (fun s hs z => Nat.lt_of_lt_of_le (h2 s hs ⟨j, hj, Or.inr z⟩) hn)
  show ((v.2.1 j 1).toNatClampNeg * 10 + thT (v.2.1 j 2) τ) * 10 + thT (v.2.1 j 3) τ < 100 * (v.2.1 j 1).toNatClampNeg + 100
  omega)
theorem CLn_s {v : RV} {nt : Nat} {θ : Nat → Option Nat} {j deep : Nat} {s : Nat → Option Nat} {n : Nat} (h : CLn v nt θ j deep s n) (k : ∀ τ e, extT θ τ → okT v nt τ → holdS v τ s → deep ≤ e → (∀ m, j ≤ m → m < v.2.2.1 → v.2.1 m 0 = 0 → ∃ d, s (nmT (v.2.1 m) τ) = some d ∧ d ≤ e) → nmT (v.2.1 j) τ = n → ∃ d, s (nmT v.1 τ) = some d ∧ d ≤ e + 1) : CLn v nt θ j deep s (n + 1) := fun τ e h1 h2 h3 h4 h5 h6 => by
  rcases Nat.lt_or_ge (nmT (v.2.1 j) τ) n with z | z
  · exact h τ e h1 h2 h3 h4 h5 z
  · exact k τ e h1 h2 h3 h4 h5 (by omega)
theorem GRel.imp {P P' : Prop} {s s' : Nat → Option Nat} {c c' : Int32} (h : GRel P s s' c c') (k : s' = s → P → P') : GRel P' s s' c c' := ⟨h.1, h.2.imp id (fun z => ⟨z.1, z.2.1, k z.2.1 z.2.2⟩)⟩
theorem GRel.go {P P' P2 : Prop} {s s1 s2 : Nat → Option Nat} {c c1 c2 : Int32} (h : GRel P s s1 c c1) (h2 : GRel P2 s1 s2 c1 c2) (k : s1 = s → P → P2 → P') : GRel P' s s2 c c2 := by
  refine ⟨h.1.tr h2.1, ?_⟩
  rcases h2.2 with z | ⟨z1, z2, z3⟩
  · refine Or.inl ⟨z.1, ?_⟩
    have m1 := h.1.mu
    have m2 := h2.1.mu
    rcases z.2 with y | y
    · rcases h.2 with ⟨_, x | x⟩ | ⟨x, _⟩
      · exact Or.inl x
      · exact Or.inr (by omega)
      · exact Or.inl (x.symm.trans y)
    · exact Or.inr (by omega)
  · rcases h.2 with ⟨y, x⟩ | ⟨y1, y2, y3⟩
    · exact Or.inl ⟨z1.trans y, by rw [z2]; exact x⟩
    · exact Or.inr ⟨z1.trans y1, z2.trans y2, k y2 y3 z3⟩
def LW (Inv : (Nat → Option Nat) → Prop) (P : Prop) (θ s : Nat → Option Nat) (h : xHp) (g : Nat → Int32) (w : Int64) (nw : Value) (ar : Nat → Nat → Int32) (tw kw : Nat → Int64) (rf : Nat → Option Nat) (h' : xHp) (g' : Nat → Int32) (ar' : Nat → Nat → Int32) (s' : Nat → Option Nat) : Prop := MH h' g' w nw ar' tw kw rf ∧ yfr h h' ∧ (∀ k, k ≠ 34 → g' k = g k) ∧ (∀ c, c ≠ 219 → c ≠ 220 → ar' c = ar c) ∧ (∀ x, x < 3 → ar' 220 x = enT (θ x)) ∧ stO (ar' 219) s' ∧ Inv s' ∧ GRel P s s' (g 34) (g' 34)
def plA (v : RV) (nt : Nat) (Inv : (Nat → Option Nat) → Prop) : Prop := ∀ s n j, Inv s → n < 1000 → s n ≠ none → j < v.2.2.1 → v.2.1 j 0 = 0 → n / 100 = (v.2.1 j 1).toNatClampNeg → (¬ v.2.1 j 2 < 100 → n / 10 % 10 < nt) ∧ (¬ v.2.1 j 3 < 100 → n % 10 < nt)
theorem pos_up {v : RV} {nt : Nat} {θ θ2 s s1 : Nat → Option Nat} {j deep deep2 : Nat} (hv : okRl nt v) (hn : nt ≤ 10) (hj : j ≤ v.2.2.1) (hbn : sgB v θ j) (hpo : posL v θ s j deep) (hl : lowS s s1) (hx : ∀ s t, s < 3 → θ s = some t → θ2 s = some t) (hd : deep ≤ deep2) : sgB v θ2 j ∧ posL v θ2 s1 j deep2 := by
  have hne : ∀ s, s < 3 → θ s ≠ none → θ2 s ≠ none := fun s hs z => by
    cases e : θ s with
    | none => exact absurd e z
    | some t => rw [hx s t hs e]; intro y; cases y
  have ex : extT θ (tOf θ2) := fun s t hs e => ext_tOf θ2 s t hs (hx s t hs e)
  refine ⟨fun m hm h0 s hs hsg => hne s hs (hbn m hm h0 s hs hsg), fun m hm h0 => ?_⟩
  obtain ⟨d, d1, d2⟩ := hpo m hm h0
  have ht := hv.2.1 m (by omega)
  have e : nmP (v.2.1 m) θ2 = nmP (v.2.1 m) θ := (nm_ext ht.2.2.1 ht.2.2.2 hn (ext_tOf θ2) (fun s hs hsg => hne s hs (hbn m hm h0 s hs hsg))).trans (nm_ext ht.2.2.1 ht.2.2.2 hn ex (hbn m hm h0)).symm
  rw [e]
  obtain ⟨d', e', l⟩ := hl _ d d1
  exact ⟨d', e', by omega⟩
set_option maxRecDepth 100000 in
set_option maxHeartbeats 4000000 in
theorem l_X14_goes {G : xG} {h : xHp} {g : Nat → Int32} {w : Int64} {nw : Value} {ar : Nat → Nat → Int32} {tw : Nat → Int64} {kw : Nat → Int64} {rf : Nat → Option Nat} (M : MH h g w nw ar tw kw rf) {nt : Nat} {θ : Nat → Option Nat} (hn : nt ≤ 10) (hθ : okTh nt θ) {a : Nat} {v : RV} (ha : 227 ≤ a) (rv : rmV h a v) (hv : okRl nt v) {s : Nat → Option Nat} {Inv : (Nat → Option Nat) → Prop} (hst : stepI v nt Inv) (hbd : ∀ s, Inv s → ∀ n d, n < 1000 → s n = some d → d ≤ ctS s) (hco : covR v) (hpa : plA v nt Inv) {j deep : Nat} (hd : deep ≤ ctS s) (hbn : sgB v θ j) (hpo : posL v θ s j deep) (hj : j < v.2.2.1) (h0 : v.2.1 j 0 = 0) {D : Nat} (ih : ∀ {h : xHp} {g : Nat → Int32} {ar : Nat → Nat → Int32} {θ s : Nat → Option Nat} {deep : Nat} (_ : MH h g w nw ar tw kw rf) (_ : rmV h a v) (_ : ∀ s, s < 3 → ar 220 s = enT (θ s)) (_ : okTh nt θ) (_ : stO (ar 219) s) (_ : Inv s) (_ : deep ≤ ctS s) (_ : sgB v θ (j + 1)) (_ : posL v θ s (j + 1) deep), MX G mX14_goes D 0 0 [.ref 205, .ref a, .int (nI ((j + 1) + 1)), .int (nI deep)] h (gQ Inv (CLo v nt θ (j + 1) deep s) θ s h g w nw ar tw kw rf)) (hD : 1 ≤ D) : ∀ (m n : Nat) {h1 : xHp} {g1 : Nat → Int32} {ar1 : Nat → Nat → Int32} {s1 : Nat → Option Nat}, 100 * (v.2.1 j 1).toNatClampNeg ≤ n → n ≤ 100 * (v.2.1 j 1).toNatClampNeg + 100 → 100 * (v.2.1 j 1).toNatClampNeg + 101 ≤ n + m → LW Inv (CLn v nt θ j deep s n) θ s h g w nw ar tw kw rf h1 g1 ar1 s1 → Wx G mX14_goes (xRm (D + 1) 0 0) (xF G (gQ Inv (CLo v nt θ j deep s) θ s h g w nw ar tw kw rf) 0 0) 0 0 85 [(0, .ref 205), (1, .ref a), (2, .int (nI (j + 1))), (3, .int (nI deep)), (4, .int (nI n))] [] h1 := by
  have ht := hv.2.1 j hj
  have hd9 := Nat.le_trans hd (ctS_le s)
  have hz4 := hv.1
  obtain ⟨hkk, hk10⟩ := ht.2.1 (by rw [h0]; decide)
  obtain ⟨kk, ekk⟩ : ∃ kk, kk = (v.2.1 j 1).toNatClampNeg := ⟨_, rfl⟩
  rw [← ekk] at hkk hk10
  intro m
  induction m with
  | zero => exact fun n {h1} {g1} {ar1} {s1} a1 a2 a3 => absurd a3 (by omega)
  | succ m ihm =>
    intro n h1 g1 ar1 s1 a1 a2 a3 T
    obtain ⟨M1, Y1, gk1, ak1, hgv1, hs1, hI1, gr⟩ := id T
    have rv1 : rmV h1 a v := rv.fr (fun q _ _ => Y1.2 q (by omega))
    obtain ⟨so, kd, on, tz, lt, rc9, rI⟩ := id rv1
    have r9 := rmI_t rI hj
    have hkk9 : kd (j + 1) = nI kk := r9.2.1.trans hkk
    have lp9 : ∀ n9 {h1 : xHp} {g1 : Nat → Int32} {ar1 : Nat → Nat → Int32} {s1 : Nat → Option Nat}, n9 = n + 1 → n < 100 * kk + 100 → LW Inv (CLn v nt θ j deep s n9) θ s h g w nw ar tw kw rf h1 g1 ar1 s1 → Wx G mX14_goes (xRm (D + 1) 0 0) (xF G (gQ Inv (CLo v nt θ j deep s) θ s h g w nw ar tw kw rf) 0 0) 0 0 85 [(0, .ref 205), (1, .ref a), (2, .int (nI (j + 1))), (3, .int (nI deep)), (4, .int (nI n9))] [] h1 := fun n9 {_} {_} {_} {_} e1 e2 T => ihm n9 (by omega) (by omega) (by omega) T
    refine x_iload dX14_goes_85 rfl ?_
    refine x_bipush (v := 100) dX14_goes_87 (by decide) ?_
    refine x_aload_n dX14_goes_89 rfl ?_
    refine x_get lf_X14_171 dX14_goes_90 rc9.1 rfl ?_
    refine x_iload_n dX14_goes_93 rfl ?_
    refine x_ialdN (j := j + 1) rc9.2.2.1 rfl (by omega) (by decide) dX14_goes_94 ?_
    refine x_top (y := nI kk) hkk9 ?_
    refine x_imul dX14_goes_95 ?_
    refine x_top (y := nI (100 * kk)) (pk_mul 100 kk) ?_
    refine x_bipush (v := 100) dX14_goes_96 (by decide) ?_
    refine x_iadd dX14_goes_98 ?_
    refine x_top (y := nI ((100 * kk) + 100)) (nI_add (100 * kk) 100) ?_
    refine x_icmp_ge 372 dX14_goes_99 (by decide) (fun c_99 => ?_) (fun c_99 => ?_)
    · rw [nI_leI (by omega) (by omega)] at c_99
      exact x_vret dX14_goes_372 rfl (Nat.le_refl _) (Nat.le_refl _) ⟨rfl, g1, ar1, s1, M1, Y1, gk1, ak1, hgv1, hs1, hI1, gr.imp (fun _ cl => CLn_end ht hj hn (by rw [← ekk, show 100 * kk + 100 = n by omega]; exact cl))⟩
    · rw [nI_leI (by omega) (by omega)] at c_99
      refine x_aload_n dX14_goes_102 rfl ?_
      refine x_get lf_X14_63 dX14_goes_103 M1.o rfl ?_
      refine x_iload dX14_goes_106 rfl ?_
      refine x_ialdN (j := n) (M1.a 219 0 1000 rfl) rfl (by omega) (by decide) dX14_goes_108 ?_
      refine x_top (hs1 n (by omega)).1 ?_
      refine x_ldc kc_X14_253 dX14_goes_109 ?_
      refine x_icmp_ge 366 dX14_goes_111 (by decide) (fun c_111 => ?_) (fun c_111 => ?_)
      · refine x_iinc (v := nI (n + 1)) [(0, .ref 205), (1, .ref a), (2, .int (nI (j + 1))), (3, .int (nI deep)), (4, .int (nI (n + 1)))] dX14_goes_366 rfl (nI_add n 1) (by decide) rfl rfl ?_
        refine x_goto 85 dX14_goes_369 (by decide) ?_
        refine x_ls _ [0, 1, 2, 3, 4] rfl (lp9 (n + 1) (by omega) (by omega) ⟨M1, Y1, gk1, ak1, hgv1, hs1, hI1, gr.imp (fun es cl => CLn_s cl (fun τ e he hok hh hde hpos hnm => ?_))⟩)
        have hfn := fitN_of ht.2.2.1 ht.2.2.2 hn (fun s hs z => hok s hs ⟨j, hj, z⟩) he hnm
        obtain ⟨d9, hd9, _⟩ := hpos j (Nat.le_refl _) hj h0
        rw [hnm] at hd9
        first | exact absurd ((enS_ge (hs1 n (by omega)).2).mp c_111) (by rw [es, hd9]; intro z; cases z) | (rw [hf2.mpr hfn.1.1] at c_132; cases c_132; done) | (rw [hf3.mpr hfn.1.2] at c_150; cases c_150; done) | exact absurd (hfn.2 s5 hs5 e5 (by rw [e6, c_218])) c_234
      · have hsn0 : ¬ s1 n = none := fun z => c_111 ((enS_ge (hs1 n (by omega)).2).mpr z)
        obtain ⟨d, hsn⟩ : ∃ d, s1 n = some d := by cases z : s1 n with | none => exact absurd z hsn0 | some d => exact ⟨d, rfl⟩
        have hdb := hbd s1 hI1 n d (by omega) hsn
        have hct1 := ctS_le s1
        have hk9 : n / 100 = (v.2.1 j 1).toNatClampNeg := by omega
        refine x_aload_n dX14_goes_114 rfl ?_
        refine x_aload_n dX14_goes_115 rfl ?_
        refine x_get lf_X14_173 dX14_goes_116 rc9.1 rfl ?_
        refine x_iload_n dX14_goes_119 rfl ?_
        refine x_ialdN (j := j + 1) rc9.2.2.2.1 rfl (by omega) (by decide) dX14_goes_120 ?_
        refine x_top (y := v.2.1 j 2) r9.2.2.1 ?_
        refine x_iload dX14_goes_121 rfl ?_
        refine x_bipush (v := 10) dX14_goes_123 (by decide) ?_
        refine x_idiv dX14_goes_125 (by decide) ?_
        refine x_top (y := nI (n / 10)) (pk_div (a := n) (d := 10) (by omega) (by omega) (by omega)) ?_
        refine x_bipush (v := 10) dX14_goes_126 (by decide) ?_
        refine x_irem dX14_goes_128 (by decide) ?_
        refine x_top (y := nI ((n / 10) % 10)) (pk_rem (a := n / 10) (d := 10) (by omega) (by omega) (by omega)) ?_
        refine x_callV (As := [.int (v.2.1 j 2), .int (nI (n / 10 % 10))]) (st := []) lv_X14_276 (k_X14_fits M1 hgv1 hn hθ ht.2.2.1 (t := (n / 10 % 10)) (by omega)) dX14_goes_129 M1.o rfl rfl (Nat.le_of_ble_eq_true rfl) ⟨by show 1 + 1 ≤ D + 1; omega, Nat.le_trans (m := 200) (Nat.le_of_ble_eq_true rfl) (by show 200 ≤ 100 * (D + 1); omega)⟩ ⟨Nat.le_refl _, Nat.le_refl _⟩ (fun v9 h9 z => ?_) (fun _ _ _ _ _ z => by obtain ⟨_, z, _⟩ := z; cases z)
        obtain ⟨b2, ev, eh, hf2⟩ := z
        rw [eh]
        cases ev
        refine x_if_eq 366 dX14_goes_132 (by decide) (fun c_132 => ?_) (fun c_132 => ?_)
        · have c_132 := bi_f c_132
          refine x_iinc (v := nI (n + 1)) [(0, .ref 205), (1, .ref a), (2, .int (nI (j + 1))), (3, .int (nI deep)), (4, .int (nI (n + 1)))] dX14_goes_366 rfl (nI_add n 1) (by decide) rfl rfl ?_
          refine x_goto 85 dX14_goes_369 (by decide) ?_
          refine x_ls _ [0, 1, 2, 3, 4] rfl (lp9 (n + 1) (by omega) (by omega) ⟨M1, Y1, gk1, ak1, hgv1, hs1, hI1, gr.imp (fun es cl => CLn_s cl (fun τ e he hok hh hde hpos hnm => ?_))⟩)
          have hfn := fitN_of ht.2.2.1 ht.2.2.2 hn (fun s hs z => hok s hs ⟨j, hj, z⟩) he hnm
          obtain ⟨d9, hd9, _⟩ := hpos j (Nat.le_refl _) hj h0
          rw [hnm] at hd9
          first | exact absurd ((enS_ge (hs1 n (by omega)).2).mp c_111) (by rw [es, hd9]; intro z; cases z) | (rw [hf2.mpr hfn.1.1] at c_132; cases c_132; done) | (rw [hf3.mpr hfn.1.2] at c_150; cases c_150; done) | exact absurd (hfn.2 s5 hs5 e5 (by rw [e6, c_218])) c_234
        · have c_132 := bi_t c_132
          refine x_aload_n dX14_goes_135 rfl ?_
          refine x_aload_n dX14_goes_136 rfl ?_
          refine x_get lf_X14_176 dX14_goes_137 rc9.1 rfl ?_
          refine x_iload_n dX14_goes_140 rfl ?_
          refine x_ialdN (j := j + 1) rc9.2.2.2.2.1 rfl (by omega) (by decide) dX14_goes_141 ?_
          refine x_top (y := v.2.1 j 3) r9.2.2.2 ?_
          refine x_iload dX14_goes_142 rfl ?_
          refine x_bipush (v := 10) dX14_goes_144 (by decide) ?_
          refine x_irem dX14_goes_146 (by decide) ?_
          refine x_top (y := nI (n % 10)) (pk_rem (a := n) (d := 10) (by omega) (by omega) (by omega)) ?_
          refine x_callV (As := [.int (v.2.1 j 3), .int (nI (n % 10))]) (st := []) lv_X14_276 (k_X14_fits M1 hgv1 hn hθ ht.2.2.2 (t := (n % 10)) (by omega)) dX14_goes_147 M1.o rfl rfl (Nat.le_of_ble_eq_true rfl) ⟨by show 1 + 1 ≤ D + 1; omega, Nat.le_trans (m := 200) (Nat.le_of_ble_eq_true rfl) (by show 200 ≤ 100 * (D + 1); omega)⟩ ⟨Nat.le_refl _, Nat.le_refl _⟩ (fun v9 h9 z => ?_) (fun _ _ _ _ _ z => by obtain ⟨_, z, _⟩ := z; cases z)
          obtain ⟨b3, ev, eh, hf3⟩ := z
          rw [eh]
          cases ev
          refine x_if_ne 156 dX14_goes_150 (by decide) (fun c_150 => ?_) (fun c_150 => ?_)
          · have c_150 := bi_t c_150
            refine x_aload_n dX14_goes_156 rfl ?_
            refine x_get lf_X14_173 dX14_goes_157 rc9.1 rfl ?_
            refine x_iload_n dX14_goes_160 rfl ?_
            refine x_ialdN (j := j + 1) rc9.2.2.2.1 rfl (by omega) (by decide) dX14_goes_161 ?_
            refine x_top (y := v.2.1 j 2) r9.2.2.1 ?_
            refine x_bipush (v := 100) dX14_goes_162 (by decide) ?_
            refine x_icmp_lt 179 dX14_goes_164 (by decide) (fun c_164 => ?_) (fun c_164 => ?_)
            · refine x_iconst (v := (-1)) dX14_goes_179 (by decide) ?_
              refine x_istore [(0, .ref 205), (1, .ref a), (2, .int (nI (j + 1))), (3, .int (nI deep)), (4, .int (nI n)), (5, .int (-1))] dX14_goes_180 (by decide) rfl rfl ?_
              refine x_aload_n dX14_goes_182 rfl ?_
              refine x_get lf_X14_176 dX14_goes_183 rc9.1 rfl ?_
              refine x_iload_n dX14_goes_186 rfl ?_
              refine x_ialdN (j := j + 1) rc9.2.2.2.2.1 rfl (by omega) (by decide) dX14_goes_187 ?_
              refine x_top (y := v.2.1 j 3) r9.2.2.2 ?_
              refine x_bipush (v := 100) dX14_goes_188 (by decide) ?_
              refine x_icmp_lt 205 dX14_goes_190 (by decide) (fun c_190 => ?_) (fun c_190 => ?_)
              · refine x_iconst (v := (-1)) dX14_goes_205 (by decide) ?_
                refine x_istore [(0, .ref 205), (1, .ref a), (2, .int (nI (j + 1))), (3, .int (nI deep)), (4, .int (nI n)), (5, .int (-1)), (6, .int (-1))] dX14_goes_206 (by decide) rfl rfl ?_
                refine x_iload dX14_goes_208 rfl ?_
                refine x_iconst (v := (-1)) dX14_goes_210 (by decide) ?_
                refine x_icmp_eq 240 dX14_goes_211 (by decide) (fun c_211 => ?_) (fun c_211 => absurd c_211 (fun z => z rfl))
                refine x_iload dX14_goes_240 rfl ?_
                refine x_iconst (v := (-1)) dX14_goes_242 (by decide) ?_
                refine x_icmp_ne 250 dX14_goes_243 (by decide) (fun c_243 => absurd c_243 (fun z => z rfl)) (fun c_243 => ?_)
                refine x_iconst (v := 0) dX14_goes_246 (by decide) ?_
                refine x_goto 257 dX14_goes_247 (by decide) ?_
                refine x_istore [(0, .ref 205), (1, .ref a), (2, .int (nI (j + 1))), (3, .int (nI deep)), (4, .int (nI n)), (5, .int (-1)), (6, .int (-1)), (7, .int 0)] dX14_goes_257 (by decide) rfl rfl ?_
                refine x_iload dX14_goes_259 rfl ?_
                refine x_iconst (v := (-1)) dX14_goes_261 (by decide) ?_
                refine x_icmp_ne 269 dX14_goes_262 (by decide) (fun c_262 => absurd c_262 (fun z => z rfl)) (fun c_262 => ?_)
                refine x_iconst (v := 0) dX14_goes_265 (by decide) ?_
                refine x_goto 276 dX14_goes_266 (by decide) ?_
                refine x_istore [(0, .ref 205), (1, .ref a), (2, .int (nI (j + 1))), (3, .int (nI deep)), (4, .int (nI n)), (5, .int (-1)), (6, .int (-1)), (7, .int 0), (8, .int 0)] dX14_goes_276 (by decide) rfl rfl ?_
                refine x_iload dX14_goes_278 rfl ?_
                refine x_iconst (v := (-1)) dX14_goes_280 (by decide) ?_
                refine x_icmp_eq 299 dX14_goes_281 (by decide) (fun c_281 => ?_) (fun c_281 => absurd c_281 (fun z => z rfl))
                refine x_iload dX14_goes_299 rfl ?_
                refine x_iconst (v := (-1)) dX14_goes_301 (by decide) ?_
                refine x_icmp_eq 317 dX14_goes_302 (by decide) (fun c_302 => ?_) (fun c_302 => absurd c_302 (fun z => z rfl))
                refine x_aload_n dX14_goes_317 rfl ?_
                refine x_aload_n dX14_goes_318 rfl ?_
                refine x_iload_n dX14_goes_319 rfl ?_
                refine x_iconst (v := 1) dX14_goes_320 (by decide) ?_
                refine x_iadd dX14_goes_321 ?_
                refine x_top (y := nI ((j + 1) + 1)) (nI_add (j + 1) 1) ?_
                refine x_iload_n dX14_goes_322 rfl ?_
                refine x_aload_n dX14_goes_323 rfl ?_
                refine x_get lf_X14_63 dX14_goes_324 M1.o rfl ?_
                refine x_iload dX14_goes_327 rfl ?_
                refine x_ialdN (j := n) (M1.a 219 0 1000 rfl) rfl (by omega) (by decide) dX14_goes_329 ?_
                refine x_top (show _ = nI d from (hs1 n (by omega)).1.trans (by rw [hsn]; rfl)) ?_
                refine x_max ml_X14_205 mx_s in_Math mx_c dX14_goes_330 (Nat.le_of_ble_eq_true rfl) (Nat.le_of_ble_eq_true rfl) ⟨Nat.le_of_ble_eq_true rfl, Nat.le_of_ble_eq_true rfl⟩ ?_
                refine x_top (y := nI (max deep d)) (nI_max (by omega) (by omega)) ?_
                have hfit : fitN (v.2.1 j) n θ := ⟨⟨hf2.mp c_132, hf3.mp c_150⟩, (fun s hs z2 z3 => (absurd (z2 ▸ c_164) (sg_not hs)))⟩
                have hpl := hpa s1 n j hI1 (by omega) (by rw [hsn]; intro z; cases z) hj h0 hk9
                obtain ⟨θ2, eθ⟩ : ∃ θ2, θ2 = stθ (v.2.1 j 3) (n % 10) (stθ (v.2.1 j 2) (n / 10 % 10) θ) := ⟨_, rfl⟩
                obtain ⟨q1, q2, q3, q4, q5⟩ := fitN_go ht.2.2.1 ht.2.2.2 hn hθ hk9 hpl.1 hpl.2 hfit eθ
                obtain ⟨u1, u2⟩ := pos_up hv hn (Nat.le_of_lt hj) hbn hpo gr.1 q1 (Nat.le_max_left deep d)
                have hdm : max deep d ≤ ctS s1 := by have := gr.1.ct; omega
                have Y4 : yfr h1 h1 := (yfr_rf _)
                refine x_callV (As := [.ref a, .int (nI (j + 1 + 1)), .int (nI (max deep d))]) (st := []) lv_X14_262 (ih (θ := θ2) (s := s1) M1 (rv1.fr (fun q _ _ => Y4.2 q (by omega))) (fun k hk => by rw [eθ]; exact (enT_st0 c_190 (enT_st0 c_164 hgv1)) k hk) q4 (by exact hs1) hI1 hdm (fun m hm z => by by_cases e : m = j; (rw [e]; exact q5); exact u1 m (by omega) z) (fun m hm z => by by_cases e : m = j; (rw [e, q2]; exact ⟨d, hsn, Nat.le_max_right _ _⟩); exact u2 m (by omega) z)) dX14_goes_333 M1.o rfl rfl (Nat.le_of_ble_eq_true rfl) ⟨by show D + 1 ≤ D + 1; omega, by show 8 + (9 + 11) + 100 * D ≤ 100 * (D + 1); omega⟩ ⟨Nat.le_refl _, Nat.le_refl _⟩ (fun v9 h2 z => ?_) (fun _ _ _ _ _ z => by cases z.1)
                obtain ⟨ev, g2, ar2, s2, M2, Y2, gk2, ak2, hgv2, hs2, hI2, gr2⟩ := z
                cases ev
                refine x_iload dX14_goes_336 rfl ?_
                refine x_iconst (v := (-1)) dX14_goes_338 (by decide) ?_
                refine x_icmp_eq 351 dX14_goes_339 (by decide) (fun c_339 => ?_) (fun c_339 => absurd c_339 (fun z => z rfl))
                refine x_iload dX14_goes_351 rfl ?_
                refine x_iconst (v := (-1)) dX14_goes_353 (by decide) ?_
                refine x_icmp_eq 366 dX14_goes_354 (by decide) (fun c_354 => ?_) (fun c_354 => absurd c_354 (fun z => z rfl))
                refine x_iinc (v := nI (n + 1)) [(0, .ref 205), (1, .ref a), (2, .int (nI (j + 1))), (3, .int (nI deep)), (4, .int (nI (n + 1))), (5, .int (-1)), (6, .int (-1)), (7, .int 0), (8, .int 0)] dX14_goes_366 rfl (nI_add n 1) (by decide) rfl rfl ?_
                refine x_goto 85 dX14_goes_369 (by decide) ?_
                refine x_ls _ [0, 1, 2, 3, 4] rfl (lp9 (n + 1) (by omega) (by omega) ⟨M2, (Y1.tr Y4).tr (Y2.tr (show yfr h2 h2 from (yfr_rf _))), fun k hk => (gk2 k hk).trans (gk1 k hk), fun c h1 h2 => (ak2 c h1 h2).trans (ak1 c h1 h2), fun k hk => ?_, hs2, hI2, gr.go gr2 (fun es cl co => CLn_s cl (fun τ e he hok hh hde hpos hnm => ?_))⟩)
                · rw [hgv2 k hk, eθ, stθ_nq ht.2.2.2 hn (fun s hs z => absurd (z ▸ c_190) (sg_not hs)), stθ_nq ht.2.2.1 hn (fun s hs z => absurd (z ▸ c_164) (sg_not hs))]
                · obtain ⟨d9, hd9, hd9e⟩ := hpos j (Nat.le_refl _) hj h0
                  rw [hnm, ← es, hsn] at hd9
                  injection hd9 with hd9
                  rw [es] at co
                  exact co τ e (q3 τ (fun s hs z => hok s hs ⟨j, hj, z⟩) he hnm) hok hh (by omega) (fun m hm => hpos m (by omega))
              · obtain ⟨s6, hs6, e6⟩ := okA_ge ht.2.2.2 hn c_190
                refine x_aload_n dX14_goes_193 rfl ?_
                refine x_get lf_X14_176 dX14_goes_194 rc9.1 rfl ?_
                refine x_iload_n dX14_goes_197 rfl ?_
                refine x_ialdN (j := j + 1) rc9.2.2.2.2.1 rfl (by omega) (by decide) dX14_goes_198 ?_
                refine x_top (y := v.2.1 j 3) r9.2.2.2 ?_
                refine x_bipush (v := 100) dX14_goes_199 (by decide) ?_
                refine x_isub dX14_goes_201 ?_
                refine x_top (y := nI s6) (by rw [e6]; exact sg_sub hs6) ?_
                refine x_goto 206 dX14_goes_202 (by decide) ?_
                refine x_istore [(0, .ref 205), (1, .ref a), (2, .int (nI (j + 1))), (3, .int (nI deep)), (4, .int (nI n)), (5, .int (-1)), (6, .int (nI s6))] dX14_goes_206 (by decide) rfl rfl ?_
                refine x_iload dX14_goes_208 rfl ?_
                refine x_iconst (v := (-1)) dX14_goes_210 (by decide) ?_
                refine x_icmp_eq 240 dX14_goes_211 (by decide) (fun c_211 => ?_) (fun c_211 => absurd c_211 (fun z => z rfl))
                refine x_iload dX14_goes_240 rfl ?_
                refine x_iconst (v := (-1)) dX14_goes_242 (by decide) ?_
                refine x_icmp_ne 250 dX14_goes_243 (by decide) (fun c_243 => absurd c_243 (fun z => z rfl)) (fun c_243 => ?_)
                refine x_iconst (v := 0) dX14_goes_246 (by decide) ?_
                refine x_goto 257 dX14_goes_247 (by decide) ?_
                refine x_istore [(0, .ref 205), (1, .ref a), (2, .int (nI (j + 1))), (3, .int (nI deep)), (4, .int (nI n)), (5, .int (-1)), (6, .int (nI s6)), (7, .int 0)] dX14_goes_257 (by decide) rfl rfl ?_
                refine x_iload dX14_goes_259 rfl ?_
                refine x_iconst (v := (-1)) dX14_goes_261 (by decide) ?_
                refine x_icmp_ne 269 dX14_goes_262 (by decide) (fun c_262 => ?_) (fun c_262 => absurd c_262 (nI_m1 (by omega)))
                refine x_aload_n dX14_goes_269 rfl ?_
                refine x_get lf_X14_66 dX14_goes_270 M1.o rfl ?_
                refine x_iload dX14_goes_273 rfl ?_
                refine x_ialdN (j := s6) (M1.a 220 0 3 rfl) rfl (by omega) (by decide) dX14_goes_275 ?_
                refine x_top (hgv1 s6 hs6) ?_
                refine x_istore [(0, .ref 205), (1, .ref a), (2, .int (nI (j + 1))), (3, .int (nI deep)), (4, .int (nI n)), (5, .int (-1)), (6, .int (nI s6)), (7, .int 0), (8, .int (enT (θ s6)))] dX14_goes_276 (by decide) rfl rfl ?_
                refine x_iload dX14_goes_278 rfl ?_
                refine x_iconst (v := (-1)) dX14_goes_280 (by decide) ?_
                refine x_icmp_eq 299 dX14_goes_281 (by decide) (fun c_281 => ?_) (fun c_281 => absurd c_281 (fun z => z rfl))
                refine x_iload dX14_goes_299 rfl ?_
                refine x_iconst (v := (-1)) dX14_goes_301 (by decide) ?_
                refine x_icmp_eq 317 dX14_goes_302 (by decide) (fun c_302 => absurd c_302 (nI_m1 (by omega))) (fun c_302 => ?_)
                refine x_aload_n dX14_goes_305 rfl ?_
                refine x_get lf_X14_66 dX14_goes_306 M1.o rfl ?_
                refine x_iload dX14_goes_309 rfl ?_
                refine x_iload dX14_goes_311 rfl ?_
                refine x_bipush (v := 10) dX14_goes_313 (by decide) ?_
                refine x_irem dX14_goes_315 (by decide) ?_
                refine x_top (y := nI (n % 10)) (pk_rem (a := n) (d := 10) (by omega) (by omega) (by omega)) ?_
                refine x_iastN (j := s6) (M1.a 220 0 3 rfl) rfl (by omega) (by decide) dX14_goes_316 ?_
                refine x_aload_n dX14_goes_317 rfl ?_
                refine x_aload_n dX14_goes_318 rfl ?_
                refine x_iload_n dX14_goes_319 rfl ?_
                refine x_iconst (v := 1) dX14_goes_320 (by decide) ?_
                refine x_iadd dX14_goes_321 ?_
                refine x_top (y := nI ((j + 1) + 1)) (nI_add (j + 1) 1) ?_
                refine x_iload_n dX14_goes_322 rfl ?_
                refine x_aload_n dX14_goes_323 rfl ?_
                refine x_get lf_X14_63 dX14_goes_324 ((xup_ne (by omega)).trans M1.o) rfl ?_
                refine x_iload dX14_goes_327 rfl ?_
                refine x_ialdN (j := n) ((xup_ne (by omega)).trans (M1.a 219 0 1000 rfl)) rfl (by omega) (by decide) dX14_goes_329 ?_
                refine x_top (show _ = nI d from (hs1 n (by omega)).1.trans (by rw [hsn]; rfl)) ?_
                refine x_max ml_X14_205 mx_s in_Math mx_c dX14_goes_330 (Nat.le_of_ble_eq_true rfl) (Nat.le_of_ble_eq_true rfl) ⟨Nat.le_of_ble_eq_true rfl, Nat.le_of_ble_eq_true rfl⟩ ?_
                refine x_top (y := nI (max deep d)) (nI_max (by omega) (by omega)) ?_
                have hfit : fitN (v.2.1 j) n θ := ⟨⟨hf2.mp c_132, hf3.mp c_150⟩, (fun s hs z2 z3 => (absurd (z2 ▸ c_164) (sg_not hs)))⟩
                have hpl := hpa s1 n j hI1 (by omega) (by rw [hsn]; intro z; cases z) hj h0 hk9
                obtain ⟨θ2, eθ⟩ : ∃ θ2, θ2 = stθ (v.2.1 j 3) (n % 10) (stθ (v.2.1 j 2) (n / 10 % 10) θ) := ⟨_, rfl⟩
                obtain ⟨q1, q2, q3, q4, q5⟩ := fitN_go ht.2.2.1 ht.2.2.2 hn hθ hk9 hpl.1 hpl.2 hfit eθ
                obtain ⟨u1, u2⟩ := pos_up hv hn (Nat.le_of_lt hj) hbn hpo gr.1 q1 (Nat.le_max_left deep d)
                have hdm : max deep d ≤ ctS s1 := by have := gr.1.ct; omega
                have Y4 : yfr h1 (xup h1 220 (.inl (0, 3, .inl (upd (ar1 220) s6 (nI (n % 10)))))) := ((yfr_rf _).up (by decide))
                refine x_callV (As := [.ref a, .int (nI (j + 1 + 1)), .int (nI (max deep d))]) (st := []) lv_X14_262 (ih (θ := θ2) (s := s1) (M1.a9 (c := 220) rfl (upd (ar1 220) s6 (nI (n % 10)))) (rv1.fr (fun q _ _ => Y4.2 q (by omega))) (fun k hk => by rw [apF_at]; rw [eθ]; exact (enT_st hs6 e6 (enT_st0 c_164 hgv1)) k hk) q4 (by rw [apF_ne (by decide)]; exact hs1) hI1 hdm (fun m hm z => by by_cases e : m = j; (rw [e]; exact q5); exact u1 m (by omega) z) (fun m hm z => by by_cases e : m = j; (rw [e, q2]; exact ⟨d, hsn, Nat.le_max_right _ _⟩); exact u2 m (by omega) z)) dX14_goes_333 ((xup_ne (by omega)).trans M1.o) rfl rfl (Nat.le_of_ble_eq_true rfl) ⟨by show D + 1 ≤ D + 1; omega, by show 8 + (9 + 11) + 100 * D ≤ 100 * (D + 1); omega⟩ ⟨Nat.le_refl _, Nat.le_refl _⟩ (fun v9 h2 z => ?_) (fun _ _ _ _ _ z => by cases z.1)
                obtain ⟨ev, g2, ar2, s2, M2, Y2, gk2, ak2, hgv2, hs2, hI2, gr2⟩ := z
                cases ev
                refine x_iload dX14_goes_336 rfl ?_
                refine x_iconst (v := (-1)) dX14_goes_338 (by decide) ?_
                refine x_icmp_eq 351 dX14_goes_339 (by decide) (fun c_339 => absurd c_339 (nI_m1 (by omega))) (fun c_339 => ?_)
                refine x_aload_n dX14_goes_342 rfl ?_
                refine x_get lf_X14_66 dX14_goes_343 M2.o rfl ?_
                refine x_iload dX14_goes_346 rfl ?_
                refine x_iload dX14_goes_348 rfl ?_
                refine x_iastN (j := s6) (M2.a 220 0 3 rfl) rfl (by omega) (by decide) dX14_goes_350 ?_
                refine x_iload dX14_goes_351 rfl ?_
                refine x_iconst (v := (-1)) dX14_goes_353 (by decide) ?_
                refine x_icmp_eq 366 dX14_goes_354 (by decide) (fun c_354 => ?_) (fun c_354 => absurd c_354 (fun z => z rfl))
                refine x_iinc (v := nI (n + 1)) [(0, .ref 205), (1, .ref a), (2, .int (nI (j + 1))), (3, .int (nI deep)), (4, .int (nI (n + 1))), (5, .int (-1)), (6, .int (nI s6)), (7, .int 0), (8, .int (enT (θ s6)))] dX14_goes_366 rfl (nI_add n 1) (by decide) rfl rfl ?_
                refine x_goto 85 dX14_goes_369 (by decide) ?_
                refine x_ls _ [0, 1, 2, 3, 4] rfl (lp9 (n + 1) (by omega) (by omega) ⟨(M2.a9 (c := 220) rfl (upd (ar2 220) s6 (enT (θ s6)))), (Y1.tr Y4).tr (Y2.tr (show yfr h2 (xup h2 220 (.inl (0, 3, .inl (upd (ar2 220) s6 (enT (θ s6)))))) from ((yfr_rf _).up (by decide)))), fun k hk => (gk2 k hk).trans (gk1 k hk), fun c h1 h2 => (by rw [apF_ne h2]; exact (ak2 c h1 h2).trans (by rw [apF_ne h2]; exact ak1 c h1 h2)), fun k hk => ?_, (by rw [apF_ne (by decide)]; exact hs2), hI2, gr.go gr2 (fun es cl co => CLn_s cl (fun τ e he hok hh hde hpos hnm => ?_))⟩)
                · rw [apF_at]; by_cases z6 : k = s6; (rw [z6, upd_at9]); rw [upd_nq z6]; rw [hgv2 k hk, eθ, stθ_nq ht.2.2.2 hn (fun s hs z => by have := (nI_eq (by omega) (by omega)).mp (e6.symm.trans z); omega), stθ_nq ht.2.2.1 hn (fun s hs z => absurd (z ▸ c_164) (sg_not hs))]
                · obtain ⟨d9, hd9, hd9e⟩ := hpos j (Nat.le_refl _) hj h0
                  rw [hnm, ← es, hsn] at hd9
                  injection hd9 with hd9
                  rw [es] at co
                  exact co τ e (q3 τ (fun s hs z => hok s hs ⟨j, hj, z⟩) he hnm) hok hh (by omega) (fun m hm => hpos m (by omega))
            · obtain ⟨s5, hs5, e5⟩ := okA_ge ht.2.2.1 hn c_164
              refine x_aload_n dX14_goes_167 rfl ?_
              refine x_get lf_X14_173 dX14_goes_168 rc9.1 rfl ?_
              refine x_iload_n dX14_goes_171 rfl ?_
              refine x_ialdN (j := j + 1) rc9.2.2.2.1 rfl (by omega) (by decide) dX14_goes_172 ?_
              refine x_top (y := v.2.1 j 2) r9.2.2.1 ?_
              refine x_bipush (v := 100) dX14_goes_173 (by decide) ?_
              refine x_isub dX14_goes_175 ?_
              refine x_top (y := nI s5) (by rw [e5]; exact sg_sub hs5) ?_
              refine x_goto 180 dX14_goes_176 (by decide) ?_
              refine x_istore [(0, .ref 205), (1, .ref a), (2, .int (nI (j + 1))), (3, .int (nI deep)), (4, .int (nI n)), (5, .int (nI s5))] dX14_goes_180 (by decide) rfl rfl ?_
              refine x_aload_n dX14_goes_182 rfl ?_
              refine x_get lf_X14_176 dX14_goes_183 rc9.1 rfl ?_
              refine x_iload_n dX14_goes_186 rfl ?_
              refine x_ialdN (j := j + 1) rc9.2.2.2.2.1 rfl (by omega) (by decide) dX14_goes_187 ?_
              refine x_top (y := v.2.1 j 3) r9.2.2.2 ?_
              refine x_bipush (v := 100) dX14_goes_188 (by decide) ?_
              refine x_icmp_lt 205 dX14_goes_190 (by decide) (fun c_190 => ?_) (fun c_190 => ?_)
              · refine x_iconst (v := (-1)) dX14_goes_205 (by decide) ?_
                refine x_istore [(0, .ref 205), (1, .ref a), (2, .int (nI (j + 1))), (3, .int (nI deep)), (4, .int (nI n)), (5, .int (nI s5)), (6, .int (-1))] dX14_goes_206 (by decide) rfl rfl ?_
                refine x_iload dX14_goes_208 rfl ?_
                refine x_iconst (v := (-1)) dX14_goes_210 (by decide) ?_
                refine x_icmp_eq 240 dX14_goes_211 (by decide) (fun c_211 => absurd c_211 (nI_m1 (by omega))) (fun c_211 => ?_)
                refine x_iload dX14_goes_214 rfl ?_
                refine x_iload dX14_goes_216 rfl ?_
                refine x_icmp_ne 240 dX14_goes_218 (by decide) (fun c_218 => ?_) (fun c_218 => absurd c_218 (nI_m1 (by omega)))
                refine x_iload dX14_goes_240 rfl ?_
                refine x_iconst (v := (-1)) dX14_goes_242 (by decide) ?_
                refine x_icmp_ne 250 dX14_goes_243 (by decide) (fun c_243 => ?_) (fun c_243 => absurd c_243 (nI_m1 (by omega)))
                refine x_aload_n dX14_goes_250 rfl ?_
                refine x_get lf_X14_66 dX14_goes_251 M1.o rfl ?_
                refine x_iload dX14_goes_254 rfl ?_
                refine x_ialdN (j := s5) (M1.a 220 0 3 rfl) rfl (by omega) (by decide) dX14_goes_256 ?_
                refine x_top (hgv1 s5 hs5) ?_
                refine x_istore [(0, .ref 205), (1, .ref a), (2, .int (nI (j + 1))), (3, .int (nI deep)), (4, .int (nI n)), (5, .int (nI s5)), (6, .int (-1)), (7, .int (enT (θ s5)))] dX14_goes_257 (by decide) rfl rfl ?_
                refine x_iload dX14_goes_259 rfl ?_
                refine x_iconst (v := (-1)) dX14_goes_261 (by decide) ?_
                refine x_icmp_ne 269 dX14_goes_262 (by decide) (fun c_262 => absurd c_262 (fun z => z rfl)) (fun c_262 => ?_)
                refine x_iconst (v := 0) dX14_goes_265 (by decide) ?_
                refine x_goto 276 dX14_goes_266 (by decide) ?_
                refine x_istore [(0, .ref 205), (1, .ref a), (2, .int (nI (j + 1))), (3, .int (nI deep)), (4, .int (nI n)), (5, .int (nI s5)), (6, .int (-1)), (7, .int (enT (θ s5))), (8, .int 0)] dX14_goes_276 (by decide) rfl rfl ?_
                refine x_iload dX14_goes_278 rfl ?_
                refine x_iconst (v := (-1)) dX14_goes_280 (by decide) ?_
                refine x_icmp_eq 299 dX14_goes_281 (by decide) (fun c_281 => absurd c_281 (nI_m1 (by omega))) (fun c_281 => ?_)
                refine x_aload_n dX14_goes_284 rfl ?_
                refine x_get lf_X14_66 dX14_goes_285 M1.o rfl ?_
                refine x_iload dX14_goes_288 rfl ?_
                refine x_iload dX14_goes_290 rfl ?_
                refine x_bipush (v := 10) dX14_goes_292 (by decide) ?_
                refine x_idiv dX14_goes_294 (by decide) ?_
                refine x_top (y := nI (n / 10)) (pk_div (a := n) (d := 10) (by omega) (by omega) (by omega)) ?_
                refine x_bipush (v := 10) dX14_goes_295 (by decide) ?_
                refine x_irem dX14_goes_297 (by decide) ?_
                refine x_top (y := nI ((n / 10) % 10)) (pk_rem (a := n / 10) (d := 10) (by omega) (by omega) (by omega)) ?_
                refine x_iastN (j := s5) (M1.a 220 0 3 rfl) rfl (by omega) (by decide) dX14_goes_298 ?_
                refine x_iload dX14_goes_299 rfl ?_
                refine x_iconst (v := (-1)) dX14_goes_301 (by decide) ?_
                refine x_icmp_eq 317 dX14_goes_302 (by decide) (fun c_302 => ?_) (fun c_302 => absurd c_302 (fun z => z rfl))
                refine x_aload_n dX14_goes_317 rfl ?_
                refine x_aload_n dX14_goes_318 rfl ?_
                refine x_iload_n dX14_goes_319 rfl ?_
                refine x_iconst (v := 1) dX14_goes_320 (by decide) ?_
                refine x_iadd dX14_goes_321 ?_
                refine x_top (y := nI ((j + 1) + 1)) (nI_add (j + 1) 1) ?_
                refine x_iload_n dX14_goes_322 rfl ?_
                refine x_aload_n dX14_goes_323 rfl ?_
                refine x_get lf_X14_63 dX14_goes_324 ((xup_ne (by omega)).trans M1.o) rfl ?_
                refine x_iload dX14_goes_327 rfl ?_
                refine x_ialdN (j := n) ((xup_ne (by omega)).trans (M1.a 219 0 1000 rfl)) rfl (by omega) (by decide) dX14_goes_329 ?_
                refine x_top (show _ = nI d from (hs1 n (by omega)).1.trans (by rw [hsn]; rfl)) ?_
                refine x_max ml_X14_205 mx_s in_Math mx_c dX14_goes_330 (Nat.le_of_ble_eq_true rfl) (Nat.le_of_ble_eq_true rfl) ⟨Nat.le_of_ble_eq_true rfl, Nat.le_of_ble_eq_true rfl⟩ ?_
                refine x_top (y := nI (max deep d)) (nI_max (by omega) (by omega)) ?_
                have hfit : fitN (v.2.1 j) n θ := ⟨⟨hf2.mp c_132, hf3.mp c_150⟩, (fun s hs z2 z3 => (absurd (z3 ▸ c_190) (sg_not hs)))⟩
                have hpl := hpa s1 n j hI1 (by omega) (by rw [hsn]; intro z; cases z) hj h0 hk9
                obtain ⟨θ2, eθ⟩ : ∃ θ2, θ2 = stθ (v.2.1 j 3) (n % 10) (stθ (v.2.1 j 2) (n / 10 % 10) θ) := ⟨_, rfl⟩
                obtain ⟨q1, q2, q3, q4, q5⟩ := fitN_go ht.2.2.1 ht.2.2.2 hn hθ hk9 hpl.1 hpl.2 hfit eθ
                obtain ⟨u1, u2⟩ := pos_up hv hn (Nat.le_of_lt hj) hbn hpo gr.1 q1 (Nat.le_max_left deep d)
                have hdm : max deep d ≤ ctS s1 := by have := gr.1.ct; omega
                have Y4 : yfr h1 (xup h1 220 (.inl (0, 3, .inl (upd (ar1 220) s5 (nI ((n / 10) % 10)))))) := ((yfr_rf _).up (by decide))
                refine x_callV (As := [.ref a, .int (nI (j + 1 + 1)), .int (nI (max deep d))]) (st := []) lv_X14_262 (ih (θ := θ2) (s := s1) (M1.a9 (c := 220) rfl (upd (ar1 220) s5 (nI ((n / 10) % 10)))) (rv1.fr (fun q _ _ => Y4.2 q (by omega))) (fun k hk => by rw [apF_at]; rw [eθ]; exact (enT_st0 c_190 (enT_st hs5 e5 hgv1)) k hk) q4 (by rw [apF_ne (by decide)]; exact hs1) hI1 hdm (fun m hm z => by by_cases e : m = j; (rw [e]; exact q5); exact u1 m (by omega) z) (fun m hm z => by by_cases e : m = j; (rw [e, q2]; exact ⟨d, hsn, Nat.le_max_right _ _⟩); exact u2 m (by omega) z)) dX14_goes_333 ((xup_ne (by omega)).trans M1.o) rfl rfl (Nat.le_of_ble_eq_true rfl) ⟨by show D + 1 ≤ D + 1; omega, by show 8 + (9 + 11) + 100 * D ≤ 100 * (D + 1); omega⟩ ⟨Nat.le_refl _, Nat.le_refl _⟩ (fun v9 h2 z => ?_) (fun _ _ _ _ _ z => by cases z.1)
                obtain ⟨ev, g2, ar2, s2, M2, Y2, gk2, ak2, hgv2, hs2, hI2, gr2⟩ := z
                cases ev
                refine x_iload dX14_goes_336 rfl ?_
                refine x_iconst (v := (-1)) dX14_goes_338 (by decide) ?_
                refine x_icmp_eq 351 dX14_goes_339 (by decide) (fun c_339 => ?_) (fun c_339 => absurd c_339 (fun z => z rfl))
                refine x_iload dX14_goes_351 rfl ?_
                refine x_iconst (v := (-1)) dX14_goes_353 (by decide) ?_
                refine x_icmp_eq 366 dX14_goes_354 (by decide) (fun c_354 => absurd c_354 (nI_m1 (by omega))) (fun c_354 => ?_)
                refine x_aload_n dX14_goes_357 rfl ?_
                refine x_get lf_X14_66 dX14_goes_358 M2.o rfl ?_
                refine x_iload dX14_goes_361 rfl ?_
                refine x_iload dX14_goes_363 rfl ?_
                refine x_iastN (j := s5) (M2.a 220 0 3 rfl) rfl (by omega) (by decide) dX14_goes_365 ?_
                refine x_iinc (v := nI (n + 1)) [(0, .ref 205), (1, .ref a), (2, .int (nI (j + 1))), (3, .int (nI deep)), (4, .int (nI (n + 1))), (5, .int (nI s5)), (6, .int (-1)), (7, .int (enT (θ s5))), (8, .int 0)] dX14_goes_366 rfl (nI_add n 1) (by decide) rfl rfl ?_
                refine x_goto 85 dX14_goes_369 (by decide) ?_
                refine x_ls _ [0, 1, 2, 3, 4] rfl (lp9 (n + 1) (by omega) (by omega) ⟨(M2.a9 (c := 220) rfl (upd (ar2 220) s5 (enT (θ s5)))), (Y1.tr Y4).tr (Y2.tr (show yfr h2 (xup h2 220 (.inl (0, 3, .inl (upd (ar2 220) s5 (enT (θ s5)))))) from ((yfr_rf _).up (by decide)))), fun k hk => (gk2 k hk).trans (gk1 k hk), fun c h1 h2 => (by rw [apF_ne h2]; exact (ak2 c h1 h2).trans (by rw [apF_ne h2]; exact ak1 c h1 h2)), fun k hk => ?_, (by rw [apF_ne (by decide)]; exact hs2), hI2, gr.go gr2 (fun es cl co => CLn_s cl (fun τ e he hok hh hde hpos hnm => ?_))⟩)
                · rw [apF_at]; by_cases z5 : k = s5; (rw [z5, upd_at9]); rw [upd_nq z5]; rw [hgv2 k hk, eθ, stθ_nq ht.2.2.2 hn (fun s hs z => absurd (z ▸ c_190) (sg_not hs)), stθ_nq ht.2.2.1 hn (fun s hs z => by have := (nI_eq (by omega) (by omega)).mp (e5.symm.trans z); omega)]
                · obtain ⟨d9, hd9, hd9e⟩ := hpos j (Nat.le_refl _) hj h0
                  rw [hnm, ← es, hsn] at hd9
                  injection hd9 with hd9
                  rw [es] at co
                  exact co τ e (q3 τ (fun s hs z => hok s hs ⟨j, hj, z⟩) he hnm) hok hh (by omega) (fun m hm => hpos m (by omega))
              · obtain ⟨s6, hs6, e6⟩ := okA_ge ht.2.2.2 hn c_190
                refine x_aload_n dX14_goes_193 rfl ?_
                refine x_get lf_X14_176 dX14_goes_194 rc9.1 rfl ?_
                refine x_iload_n dX14_goes_197 rfl ?_
                refine x_ialdN (j := j + 1) rc9.2.2.2.2.1 rfl (by omega) (by decide) dX14_goes_198 ?_
                refine x_top (y := v.2.1 j 3) r9.2.2.2 ?_
                refine x_bipush (v := 100) dX14_goes_199 (by decide) ?_
                refine x_isub dX14_goes_201 ?_
                refine x_top (y := nI s6) (by rw [e6]; exact sg_sub hs6) ?_
                refine x_goto 206 dX14_goes_202 (by decide) ?_
                refine x_istore [(0, .ref 205), (1, .ref a), (2, .int (nI (j + 1))), (3, .int (nI deep)), (4, .int (nI n)), (5, .int (nI s5)), (6, .int (nI s6))] dX14_goes_206 (by decide) rfl rfl ?_
                refine x_iload dX14_goes_208 rfl ?_
                refine x_iconst (v := (-1)) dX14_goes_210 (by decide) ?_
                refine x_icmp_eq 240 dX14_goes_211 (by decide) (fun c_211 => absurd c_211 (nI_m1 (by omega))) (fun c_211 => ?_)
                refine x_iload dX14_goes_214 rfl ?_
                refine x_iload dX14_goes_216 rfl ?_
                refine x_icmp_ne 240 dX14_goes_218 (by decide) (fun c_218 => ?_) (fun c_218 => ?_)
                · rw [nI_eq (by omega) (by omega)] at c_218
                  refine x_iload dX14_goes_240 rfl ?_
                  refine x_iconst (v := (-1)) dX14_goes_242 (by decide) ?_
                  refine x_icmp_ne 250 dX14_goes_243 (by decide) (fun c_243 => ?_) (fun c_243 => absurd c_243 (nI_m1 (by omega)))
                  refine x_aload_n dX14_goes_250 rfl ?_
                  refine x_get lf_X14_66 dX14_goes_251 M1.o rfl ?_
                  refine x_iload dX14_goes_254 rfl ?_
                  refine x_ialdN (j := s5) (M1.a 220 0 3 rfl) rfl (by omega) (by decide) dX14_goes_256 ?_
                  refine x_top (hgv1 s5 hs5) ?_
                  refine x_istore [(0, .ref 205), (1, .ref a), (2, .int (nI (j + 1))), (3, .int (nI deep)), (4, .int (nI n)), (5, .int (nI s5)), (6, .int (nI s6)), (7, .int (enT (θ s5)))] dX14_goes_257 (by decide) rfl rfl ?_
                  refine x_iload dX14_goes_259 rfl ?_
                  refine x_iconst (v := (-1)) dX14_goes_261 (by decide) ?_
                  refine x_icmp_ne 269 dX14_goes_262 (by decide) (fun c_262 => ?_) (fun c_262 => absurd c_262 (nI_m1 (by omega)))
                  refine x_aload_n dX14_goes_269 rfl ?_
                  refine x_get lf_X14_66 dX14_goes_270 M1.o rfl ?_
                  refine x_iload dX14_goes_273 rfl ?_
                  refine x_ialdN (j := s6) (M1.a 220 0 3 rfl) rfl (by omega) (by decide) dX14_goes_275 ?_
                  refine x_top (hgv1 s6 hs6) ?_
                  refine x_istore [(0, .ref 205), (1, .ref a), (2, .int (nI (j + 1))), (3, .int (nI deep)), (4, .int (nI n)), (5, .int (nI s5)), (6, .int (nI s6)), (7, .int (enT (θ s5))), (8, .int (enT (θ s6)))] dX14_goes_276 (by decide) rfl rfl ?_
                  refine x_iload dX14_goes_278 rfl ?_
                  refine x_iconst (v := (-1)) dX14_goes_280 (by decide) ?_
                  refine x_icmp_eq 299 dX14_goes_281 (by decide) (fun c_281 => absurd c_281 (nI_m1 (by omega))) (fun c_281 => ?_)
                  refine x_aload_n dX14_goes_284 rfl ?_
                  refine x_get lf_X14_66 dX14_goes_285 M1.o rfl ?_
                  refine x_iload dX14_goes_288 rfl ?_
                  refine x_iload dX14_goes_290 rfl ?_
                  refine x_bipush (v := 10) dX14_goes_292 (by decide) ?_
                  refine x_idiv dX14_goes_294 (by decide) ?_
                  refine x_top (y := nI (n / 10)) (pk_div (a := n) (d := 10) (by omega) (by omega) (by omega)) ?_
                  refine x_bipush (v := 10) dX14_goes_295 (by decide) ?_
                  refine x_irem dX14_goes_297 (by decide) ?_
                  refine x_top (y := nI ((n / 10) % 10)) (pk_rem (a := n / 10) (d := 10) (by omega) (by omega) (by omega)) ?_
                  refine x_iastN (j := s5) (M1.a 220 0 3 rfl) rfl (by omega) (by decide) dX14_goes_298 ?_
                  refine x_iload dX14_goes_299 rfl ?_
                  refine x_iconst (v := (-1)) dX14_goes_301 (by decide) ?_
                  refine x_icmp_eq 317 dX14_goes_302 (by decide) (fun c_302 => absurd c_302 (nI_m1 (by omega))) (fun c_302 => ?_)
                  refine x_aload_n dX14_goes_305 rfl ?_
                  refine x_get lf_X14_66 dX14_goes_306 ((xup_ne (by omega)).trans M1.o) rfl ?_
                  refine x_iload dX14_goes_309 rfl ?_
                  refine x_iload dX14_goes_311 rfl ?_
                  refine x_bipush (v := 10) dX14_goes_313 (by decide) ?_
                  refine x_irem dX14_goes_315 (by decide) ?_
                  refine x_top (y := nI (n % 10)) (pk_rem (a := n) (d := 10) (by omega) (by omega) (by omega)) ?_
                  refine x_iastN (j := s6) (xup_self _ _ _) rfl (by omega) (by decide) dX14_goes_316 ?_
                  refine x_aload_n dX14_goes_317 rfl ?_
                  refine x_aload_n dX14_goes_318 rfl ?_
                  refine x_iload_n dX14_goes_319 rfl ?_
                  refine x_iconst (v := 1) dX14_goes_320 (by decide) ?_
                  refine x_iadd dX14_goes_321 ?_
                  refine x_top (y := nI ((j + 1) + 1)) (nI_add (j + 1) 1) ?_
                  refine x_iload_n dX14_goes_322 rfl ?_
                  refine x_aload_n dX14_goes_323 rfl ?_
                  refine x_get lf_X14_63 dX14_goes_324 ((xup_ne (by omega)).trans ((xup_ne (by omega)).trans M1.o)) rfl ?_
                  refine x_iload dX14_goes_327 rfl ?_
                  refine x_ialdN (j := n) ((xup_ne (by omega)).trans ((xup_ne (by omega)).trans (M1.a 219 0 1000 rfl))) rfl (by omega) (by decide) dX14_goes_329 ?_
                  refine x_top (show _ = nI d from (hs1 n (by omega)).1.trans (by rw [hsn]; rfl)) ?_
                  refine x_max ml_X14_205 mx_s in_Math mx_c dX14_goes_330 (Nat.le_of_ble_eq_true rfl) (Nat.le_of_ble_eq_true rfl) ⟨Nat.le_of_ble_eq_true rfl, Nat.le_of_ble_eq_true rfl⟩ ?_
                  refine x_top (y := nI (max deep d)) (nI_max (by omega) (by omega)) ?_
                  have hfit : fitN (v.2.1 j) n θ := ⟨⟨hf2.mp c_132, hf3.mp c_150⟩, (fun s hs z2 z3 => (by have q2 := (nI_eq (by omega) (by omega)).mp (e5.symm.trans z2); have q3 := (nI_eq (by omega) (by omega)).mp (e6.symm.trans z3); omega))⟩
                  have hpl := hpa s1 n j hI1 (by omega) (by rw [hsn]; intro z; cases z) hj h0 hk9
                  obtain ⟨θ2, eθ⟩ : ∃ θ2, θ2 = stθ (v.2.1 j 3) (n % 10) (stθ (v.2.1 j 2) (n / 10 % 10) θ) := ⟨_, rfl⟩
                  obtain ⟨q1, q2, q3, q4, q5⟩ := fitN_go ht.2.2.1 ht.2.2.2 hn hθ hk9 hpl.1 hpl.2 hfit eθ
                  obtain ⟨u1, u2⟩ := pos_up hv hn (Nat.le_of_lt hj) hbn hpo gr.1 q1 (Nat.le_max_left deep d)
                  have hdm : max deep d ≤ ctS s1 := by have := gr.1.ct; omega
                  have Y4 : yfr h1 (xup (xup h1 220 (.inl (0, 3, .inl (upd (ar1 220) s5 (nI ((n / 10) % 10)))))) 220 (.inl (0, 3, .inl (upd (upd (ar1 220) s5 (nI ((n / 10) % 10))) s6 (nI (n % 10)))))) := (((yfr_rf _).up (by decide)).up (by decide))
                  refine x_callV (As := [.ref a, .int (nI (j + 1 + 1)), .int (nI (max deep d))]) (st := []) lv_X14_262 (ih (θ := θ2) (s := s1) ((M1.a9 (c := 220) rfl (upd (ar1 220) s5 (nI ((n / 10) % 10)))).a9 (c := 220) rfl (upd (upd (ar1 220) s5 (nI ((n / 10) % 10))) s6 (nI (n % 10)))) (rv1.fr (fun q _ _ => Y4.2 q (by omega))) (fun k hk => by rw [apF_at]; rw [eθ]; exact (enT_st hs6 e6 (enT_st hs5 e5 hgv1)) k hk) q4 (by rw [apF_ne (by decide)]; exact hs1) hI1 hdm (fun m hm z => by by_cases e : m = j; (rw [e]; exact q5); exact u1 m (by omega) z) (fun m hm z => by by_cases e : m = j; (rw [e, q2]; exact ⟨d, hsn, Nat.le_max_right _ _⟩); exact u2 m (by omega) z)) dX14_goes_333 ((xup_ne (by omega)).trans ((xup_ne (by omega)).trans M1.o)) rfl rfl (Nat.le_of_ble_eq_true rfl) ⟨by show D + 1 ≤ D + 1; omega, by show 8 + (9 + 11) + 100 * D ≤ 100 * (D + 1); omega⟩ ⟨Nat.le_refl _, Nat.le_refl _⟩ (fun v9 h2 z => ?_) (fun _ _ _ _ _ z => by cases z.1)
                  obtain ⟨ev, g2, ar2, s2, M2, Y2, gk2, ak2, hgv2, hs2, hI2, gr2⟩ := z
                  cases ev
                  refine x_iload dX14_goes_336 rfl ?_
                  refine x_iconst (v := (-1)) dX14_goes_338 (by decide) ?_
                  refine x_icmp_eq 351 dX14_goes_339 (by decide) (fun c_339 => absurd c_339 (nI_m1 (by omega))) (fun c_339 => ?_)
                  refine x_aload_n dX14_goes_342 rfl ?_
                  refine x_get lf_X14_66 dX14_goes_343 M2.o rfl ?_
                  refine x_iload dX14_goes_346 rfl ?_
                  refine x_iload dX14_goes_348 rfl ?_
                  refine x_iastN (j := s6) (M2.a 220 0 3 rfl) rfl (by omega) (by decide) dX14_goes_350 ?_
                  refine x_iload dX14_goes_351 rfl ?_
                  refine x_iconst (v := (-1)) dX14_goes_353 (by decide) ?_
                  refine x_icmp_eq 366 dX14_goes_354 (by decide) (fun c_354 => absurd c_354 (nI_m1 (by omega))) (fun c_354 => ?_)
                  refine x_aload_n dX14_goes_357 rfl ?_
                  refine x_get lf_X14_66 dX14_goes_358 ((xup_ne (by omega)).trans M2.o) rfl ?_
                  refine x_iload dX14_goes_361 rfl ?_
                  refine x_iload dX14_goes_363 rfl ?_
                  refine x_iastN (j := s5) (xup_self _ _ _) rfl (by omega) (by decide) dX14_goes_365 ?_
                  refine x_iinc (v := nI (n + 1)) [(0, .ref 205), (1, .ref a), (2, .int (nI (j + 1))), (3, .int (nI deep)), (4, .int (nI (n + 1))), (5, .int (nI s5)), (6, .int (nI s6)), (7, .int (enT (θ s5))), (8, .int (enT (θ s6)))] dX14_goes_366 rfl (nI_add n 1) (by decide) rfl rfl ?_
                  refine x_goto 85 dX14_goes_369 (by decide) ?_
                  refine x_ls _ [0, 1, 2, 3, 4] rfl (lp9 (n + 1) (by omega) (by omega) ⟨((M2.a9 (c := 220) rfl (upd (ar2 220) s6 (enT (θ s6)))).a9 (c := 220) rfl (upd (upd (ar2 220) s6 (enT (θ s6))) s5 (enT (θ s5)))), (Y1.tr Y4).tr (Y2.tr (show yfr h2 (xup (xup h2 220 (.inl (0, 3, .inl (upd (ar2 220) s6 (enT (θ s6)))))) 220 (.inl (0, 3, .inl (upd (upd (ar2 220) s6 (enT (θ s6))) s5 (enT (θ s5)))))) from (((yfr_rf _).up (by decide)).up (by decide)))), fun k hk => (gk2 k hk).trans (gk1 k hk), fun c h1 h2 => (by rw [apF_ne h2, apF_ne h2]; exact (ak2 c h1 h2).trans (by rw [apF_ne h2, apF_ne h2]; exact ak1 c h1 h2)), fun k hk => ?_, (by rw [apF_ne (by decide)]; exact hs2), hI2, gr.go gr2 (fun es cl co => CLn_s cl (fun τ e he hok hh hde hpos hnm => ?_))⟩)
                  · rw [apF_at]; by_cases z5 : k = s5; (rw [z5, upd_at9]); rw [upd_nq z5]; by_cases z6 : k = s6; (rw [z6, upd_at9]); rw [upd_nq z6]; rw [hgv2 k hk, eθ, stθ_nq ht.2.2.2 hn (fun s hs z => by have := (nI_eq (by omega) (by omega)).mp (e6.symm.trans z); omega), stθ_nq ht.2.2.1 hn (fun s hs z => by have := (nI_eq (by omega) (by omega)).mp (e5.symm.trans z); omega)]
                  · obtain ⟨d9, hd9, hd9e⟩ := hpos j (Nat.le_refl _) hj h0
                    rw [hnm, ← es, hsn] at hd9
                    injection hd9 with hd9
                    rw [es] at co
                    exact co τ e (q3 τ (fun s hs z => hok s hs ⟨j, hj, z⟩) he hnm) hok hh (by omega) (fun m hm => hpos m (by omega))
                · rw [nI_eq (by omega) (by omega)] at c_218
                  refine x_iload dX14_goes_221 rfl ?_
                  refine x_bipush (v := 10) dX14_goes_223 (by decide) ?_
                  refine x_idiv dX14_goes_225 (by decide) ?_
                  refine x_top (y := nI (n / 10)) (pk_div (a := n) (d := 10) (by omega) (by omega) (by omega)) ?_
                  refine x_bipush (v := 10) dX14_goes_226 (by decide) ?_
                  refine x_irem dX14_goes_228 (by decide) ?_
                  refine x_top (y := nI ((n / 10) % 10)) (pk_rem (a := n / 10) (d := 10) (by omega) (by omega) (by omega)) ?_
                  refine x_iload dX14_goes_229 rfl ?_
                  refine x_bipush (v := 10) dX14_goes_231 (by decide) ?_
                  refine x_irem dX14_goes_233 (by decide) ?_
                  refine x_top (y := nI (n % 10)) (pk_rem (a := n) (d := 10) (by omega) (by omega) (by omega)) ?_
                  refine x_icmp_eq 240 dX14_goes_234 (by decide) (fun c_234 => ?_) (fun c_234 => ?_)
                  · rw [nI_eq (by omega) (by omega)] at c_234
                    refine x_iload dX14_goes_240 rfl ?_
                    refine x_iconst (v := (-1)) dX14_goes_242 (by decide) ?_
                    refine x_icmp_ne 250 dX14_goes_243 (by decide) (fun c_243 => ?_) (fun c_243 => absurd c_243 (nI_m1 (by omega)))
                    refine x_aload_n dX14_goes_250 rfl ?_
                    refine x_get lf_X14_66 dX14_goes_251 M1.o rfl ?_
                    refine x_iload dX14_goes_254 rfl ?_
                    refine x_ialdN (j := s5) (M1.a 220 0 3 rfl) rfl (by omega) (by decide) dX14_goes_256 ?_
                    refine x_top (hgv1 s5 hs5) ?_
                    refine x_istore [(0, .ref 205), (1, .ref a), (2, .int (nI (j + 1))), (3, .int (nI deep)), (4, .int (nI n)), (5, .int (nI s5)), (6, .int (nI s6)), (7, .int (enT (θ s5)))] dX14_goes_257 (by decide) rfl rfl ?_
                    refine x_iload dX14_goes_259 rfl ?_
                    refine x_iconst (v := (-1)) dX14_goes_261 (by decide) ?_
                    refine x_icmp_ne 269 dX14_goes_262 (by decide) (fun c_262 => ?_) (fun c_262 => absurd c_262 (nI_m1 (by omega)))
                    refine x_aload_n dX14_goes_269 rfl ?_
                    refine x_get lf_X14_66 dX14_goes_270 M1.o rfl ?_
                    refine x_iload dX14_goes_273 rfl ?_
                    refine x_ialdN (j := s6) (M1.a 220 0 3 rfl) rfl (by omega) (by decide) dX14_goes_275 ?_
                    refine x_top (hgv1 s6 hs6) ?_
                    refine x_istore [(0, .ref 205), (1, .ref a), (2, .int (nI (j + 1))), (3, .int (nI deep)), (4, .int (nI n)), (5, .int (nI s5)), (6, .int (nI s6)), (7, .int (enT (θ s5))), (8, .int (enT (θ s6)))] dX14_goes_276 (by decide) rfl rfl ?_
                    refine x_iload dX14_goes_278 rfl ?_
                    refine x_iconst (v := (-1)) dX14_goes_280 (by decide) ?_
                    refine x_icmp_eq 299 dX14_goes_281 (by decide) (fun c_281 => absurd c_281 (nI_m1 (by omega))) (fun c_281 => ?_)
                    refine x_aload_n dX14_goes_284 rfl ?_
                    refine x_get lf_X14_66 dX14_goes_285 M1.o rfl ?_
                    refine x_iload dX14_goes_288 rfl ?_
                    refine x_iload dX14_goes_290 rfl ?_
                    refine x_bipush (v := 10) dX14_goes_292 (by decide) ?_
                    refine x_idiv dX14_goes_294 (by decide) ?_
                    refine x_top (y := nI (n / 10)) (pk_div (a := n) (d := 10) (by omega) (by omega) (by omega)) ?_
                    refine x_bipush (v := 10) dX14_goes_295 (by decide) ?_
                    refine x_irem dX14_goes_297 (by decide) ?_
                    refine x_top (y := nI ((n / 10) % 10)) (pk_rem (a := n / 10) (d := 10) (by omega) (by omega) (by omega)) ?_
                    refine x_iastN (j := s5) (M1.a 220 0 3 rfl) rfl (by omega) (by decide) dX14_goes_298 ?_
                    refine x_iload dX14_goes_299 rfl ?_
                    refine x_iconst (v := (-1)) dX14_goes_301 (by decide) ?_
                    refine x_icmp_eq 317 dX14_goes_302 (by decide) (fun c_302 => absurd c_302 (nI_m1 (by omega))) (fun c_302 => ?_)
                    refine x_aload_n dX14_goes_305 rfl ?_
                    refine x_get lf_X14_66 dX14_goes_306 ((xup_ne (by omega)).trans M1.o) rfl ?_
                    refine x_iload dX14_goes_309 rfl ?_
                    refine x_iload dX14_goes_311 rfl ?_
                    refine x_bipush (v := 10) dX14_goes_313 (by decide) ?_
                    refine x_irem dX14_goes_315 (by decide) ?_
                    refine x_top (y := nI (n % 10)) (pk_rem (a := n) (d := 10) (by omega) (by omega) (by omega)) ?_
                    refine x_iastN (j := s6) (xup_self _ _ _) rfl (by omega) (by decide) dX14_goes_316 ?_
                    refine x_aload_n dX14_goes_317 rfl ?_
                    refine x_aload_n dX14_goes_318 rfl ?_
                    refine x_iload_n dX14_goes_319 rfl ?_
                    refine x_iconst (v := 1) dX14_goes_320 (by decide) ?_
                    refine x_iadd dX14_goes_321 ?_
                    refine x_top (y := nI ((j + 1) + 1)) (nI_add (j + 1) 1) ?_
                    refine x_iload_n dX14_goes_322 rfl ?_
                    refine x_aload_n dX14_goes_323 rfl ?_
                    refine x_get lf_X14_63 dX14_goes_324 ((xup_ne (by omega)).trans ((xup_ne (by omega)).trans M1.o)) rfl ?_
                    refine x_iload dX14_goes_327 rfl ?_
                    refine x_ialdN (j := n) ((xup_ne (by omega)).trans ((xup_ne (by omega)).trans (M1.a 219 0 1000 rfl))) rfl (by omega) (by decide) dX14_goes_329 ?_
                    refine x_top (show _ = nI d from (hs1 n (by omega)).1.trans (by rw [hsn]; rfl)) ?_
                    refine x_max ml_X14_205 mx_s in_Math mx_c dX14_goes_330 (Nat.le_of_ble_eq_true rfl) (Nat.le_of_ble_eq_true rfl) ⟨Nat.le_of_ble_eq_true rfl, Nat.le_of_ble_eq_true rfl⟩ ?_
                    refine x_top (y := nI (max deep d)) (nI_max (by omega) (by omega)) ?_
                    have hfit : fitN (v.2.1 j) n θ := ⟨⟨hf2.mp c_132, hf3.mp c_150⟩, (fun s hs z2 z3 => (by have q2 := (nI_eq (by omega) (by omega)).mp (e5.symm.trans z2); have q3 := (nI_eq (by omega) (by omega)).mp (e6.symm.trans z3); omega))⟩
                    have hpl := hpa s1 n j hI1 (by omega) (by rw [hsn]; intro z; cases z) hj h0 hk9
                    obtain ⟨θ2, eθ⟩ : ∃ θ2, θ2 = stθ (v.2.1 j 3) (n % 10) (stθ (v.2.1 j 2) (n / 10 % 10) θ) := ⟨_, rfl⟩
                    obtain ⟨q1, q2, q3, q4, q5⟩ := fitN_go ht.2.2.1 ht.2.2.2 hn hθ hk9 hpl.1 hpl.2 hfit eθ
                    obtain ⟨u1, u2⟩ := pos_up hv hn (Nat.le_of_lt hj) hbn hpo gr.1 q1 (Nat.le_max_left deep d)
                    have hdm : max deep d ≤ ctS s1 := by have := gr.1.ct; omega
                    have Y4 : yfr h1 (xup (xup h1 220 (.inl (0, 3, .inl (upd (ar1 220) s5 (nI ((n / 10) % 10)))))) 220 (.inl (0, 3, .inl (upd (upd (ar1 220) s5 (nI ((n / 10) % 10))) s6 (nI (n % 10)))))) := (((yfr_rf _).up (by decide)).up (by decide))
                    refine x_callV (As := [.ref a, .int (nI (j + 1 + 1)), .int (nI (max deep d))]) (st := []) lv_X14_262 (ih (θ := θ2) (s := s1) ((M1.a9 (c := 220) rfl (upd (ar1 220) s5 (nI ((n / 10) % 10)))).a9 (c := 220) rfl (upd (upd (ar1 220) s5 (nI ((n / 10) % 10))) s6 (nI (n % 10)))) (rv1.fr (fun q _ _ => Y4.2 q (by omega))) (fun k hk => by rw [apF_at]; rw [eθ]; exact (enT_st hs6 e6 (enT_st hs5 e5 hgv1)) k hk) q4 (by rw [apF_ne (by decide)]; exact hs1) hI1 hdm (fun m hm z => by by_cases e : m = j; (rw [e]; exact q5); exact u1 m (by omega) z) (fun m hm z => by by_cases e : m = j; (rw [e, q2]; exact ⟨d, hsn, Nat.le_max_right _ _⟩); exact u2 m (by omega) z)) dX14_goes_333 ((xup_ne (by omega)).trans ((xup_ne (by omega)).trans M1.o)) rfl rfl (Nat.le_of_ble_eq_true rfl) ⟨by show D + 1 ≤ D + 1; omega, by show 8 + (9 + 11) + 100 * D ≤ 100 * (D + 1); omega⟩ ⟨Nat.le_refl _, Nat.le_refl _⟩ (fun v9 h2 z => ?_) (fun _ _ _ _ _ z => by cases z.1)
                    obtain ⟨ev, g2, ar2, s2, M2, Y2, gk2, ak2, hgv2, hs2, hI2, gr2⟩ := z
                    cases ev
                    refine x_iload dX14_goes_336 rfl ?_
                    refine x_iconst (v := (-1)) dX14_goes_338 (by decide) ?_
                    refine x_icmp_eq 351 dX14_goes_339 (by decide) (fun c_339 => absurd c_339 (nI_m1 (by omega))) (fun c_339 => ?_)
                    refine x_aload_n dX14_goes_342 rfl ?_
                    refine x_get lf_X14_66 dX14_goes_343 M2.o rfl ?_
                    refine x_iload dX14_goes_346 rfl ?_
                    refine x_iload dX14_goes_348 rfl ?_
                    refine x_iastN (j := s6) (M2.a 220 0 3 rfl) rfl (by omega) (by decide) dX14_goes_350 ?_
                    refine x_iload dX14_goes_351 rfl ?_
                    refine x_iconst (v := (-1)) dX14_goes_353 (by decide) ?_
                    refine x_icmp_eq 366 dX14_goes_354 (by decide) (fun c_354 => absurd c_354 (nI_m1 (by omega))) (fun c_354 => ?_)
                    refine x_aload_n dX14_goes_357 rfl ?_
                    refine x_get lf_X14_66 dX14_goes_358 ((xup_ne (by omega)).trans M2.o) rfl ?_
                    refine x_iload dX14_goes_361 rfl ?_
                    refine x_iload dX14_goes_363 rfl ?_
                    refine x_iastN (j := s5) (xup_self _ _ _) rfl (by omega) (by decide) dX14_goes_365 ?_
                    refine x_iinc (v := nI (n + 1)) [(0, .ref 205), (1, .ref a), (2, .int (nI (j + 1))), (3, .int (nI deep)), (4, .int (nI (n + 1))), (5, .int (nI s5)), (6, .int (nI s6)), (7, .int (enT (θ s5))), (8, .int (enT (θ s6)))] dX14_goes_366 rfl (nI_add n 1) (by decide) rfl rfl ?_
                    refine x_goto 85 dX14_goes_369 (by decide) ?_
                    refine x_ls _ [0, 1, 2, 3, 4] rfl (lp9 (n + 1) (by omega) (by omega) ⟨((M2.a9 (c := 220) rfl (upd (ar2 220) s6 (enT (θ s6)))).a9 (c := 220) rfl (upd (upd (ar2 220) s6 (enT (θ s6))) s5 (enT (θ s5)))), (Y1.tr Y4).tr (Y2.tr (show yfr h2 (xup (xup h2 220 (.inl (0, 3, .inl (upd (ar2 220) s6 (enT (θ s6)))))) 220 (.inl (0, 3, .inl (upd (upd (ar2 220) s6 (enT (θ s6))) s5 (enT (θ s5)))))) from (((yfr_rf _).up (by decide)).up (by decide)))), fun k hk => (gk2 k hk).trans (gk1 k hk), fun c h1 h2 => (by rw [apF_ne h2, apF_ne h2]; exact (ak2 c h1 h2).trans (by rw [apF_ne h2, apF_ne h2]; exact ak1 c h1 h2)), fun k hk => ?_, (by rw [apF_ne (by decide)]; exact hs2), hI2, gr.go gr2 (fun es cl co => CLn_s cl (fun τ e he hok hh hde hpos hnm => ?_))⟩)
                    · rw [apF_at]; by_cases z5 : k = s5; (rw [z5, upd_at9]); rw [upd_nq z5]; by_cases z6 : k = s6; (rw [z6, upd_at9]); rw [upd_nq z6]; rw [hgv2 k hk, eθ, stθ_nq ht.2.2.2 hn (fun s hs z => by have := (nI_eq (by omega) (by omega)).mp (e6.symm.trans z); omega), stθ_nq ht.2.2.1 hn (fun s hs z => by have := (nI_eq (by omega) (by omega)).mp (e5.symm.trans z); omega)]
                    · obtain ⟨d9, hd9, hd9e⟩ := hpos j (Nat.le_refl _) hj h0
                      rw [hnm, ← es, hsn] at hd9
                      injection hd9 with hd9
                      rw [es] at co
                      exact co τ e (q3 τ (fun s hs z => hok s hs ⟨j, hj, z⟩) he hnm) hok hh (by omega) (fun m hm => hpos m (by omega))
                  · rw [nI_eq (by omega) (by omega)] at c_234
                    refine x_goto 366 dX14_goes_237 (by decide) ?_
                    refine x_iinc (v := nI (n + 1)) [(0, .ref 205), (1, .ref a), (2, .int (nI (j + 1))), (3, .int (nI deep)), (4, .int (nI (n + 1))), (5, .int (nI s5)), (6, .int (nI s6))] dX14_goes_366 rfl (nI_add n 1) (by decide) rfl rfl ?_
                    refine x_goto 85 dX14_goes_369 (by decide) ?_
                    refine x_ls _ [0, 1, 2, 3, 4] rfl (lp9 (n + 1) (by omega) (by omega) ⟨M1, Y1, gk1, ak1, hgv1, hs1, hI1, gr.imp (fun es cl => CLn_s cl (fun τ e he hok hh hde hpos hnm => ?_))⟩)
                    have hfn := fitN_of ht.2.2.1 ht.2.2.2 hn (fun s hs z => hok s hs ⟨j, hj, z⟩) he hnm
                    obtain ⟨d9, hd9, _⟩ := hpos j (Nat.le_refl _) hj h0
                    rw [hnm] at hd9
                    first | exact absurd ((enS_ge (hs1 n (by omega)).2).mp c_111) (by rw [es, hd9]; intro z; cases z) | (rw [hf2.mpr hfn.1.1] at c_132; cases c_132; done) | (rw [hf3.mpr hfn.1.2] at c_150; cases c_150; done) | exact absurd (hfn.2 s5 hs5 e5 (by rw [e6, c_218])) c_234
          · have c_150 := bi_f c_150
            refine x_goto 366 dX14_goes_153 (by decide) ?_
            refine x_iinc (v := nI (n + 1)) [(0, .ref 205), (1, .ref a), (2, .int (nI (j + 1))), (3, .int (nI deep)), (4, .int (nI (n + 1)))] dX14_goes_366 rfl (nI_add n 1) (by decide) rfl rfl ?_
            refine x_goto 85 dX14_goes_369 (by decide) ?_
            refine x_ls _ [0, 1, 2, 3, 4] rfl (lp9 (n + 1) (by omega) (by omega) ⟨M1, Y1, gk1, ak1, hgv1, hs1, hI1, gr.imp (fun es cl => CLn_s cl (fun τ e he hok hh hde hpos hnm => ?_))⟩)
            have hfn := fitN_of ht.2.2.1 ht.2.2.2 hn (fun s hs z => hok s hs ⟨j, hj, z⟩) he hnm
            obtain ⟨d9, hd9, _⟩ := hpos j (Nat.le_refl _) hj h0
            rw [hnm] at hd9
            first | exact absurd ((enS_ge (hs1 n (by omega)).2).mp c_111) (by rw [es, hd9]; intro z; cases z) | (rw [hf2.mpr hfn.1.1] at c_132; cases c_132; done) | (rw [hf3.mpr hfn.1.2] at c_150; cases c_150; done) | exact absurd (hfn.2 s5 hs5 e5 (by rw [e6, c_218])) c_234
