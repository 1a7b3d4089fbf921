/-! the reference: readArg -/
theorem MH.x9 {h : xHp} {g : Nat → Int32} {w : Int64} {nw : Value} {ar : Nat → Nat → Int32} {tw kw : Nat → Int64} {rf : Nat → Option Nat} (M : MH h g w nw ar tw kw rf) {a : Nat} {c : xCel} (ha : 226 ≤ a) : MH (xup h a c) g w nw ar tw kw rf := M.fr rfl (fun q h1 h2 => xup_ne (by omega))
theorem argL_th {x p : Int32} (h : x < 100) : argL x p = [] := if_pos h
theorem argL_sg {s : Nat} (hs : s < 3) (p : Int32) : argL (nI (100 + s)) p = [(s, p)] := by unfold argL; rw [if_neg (sg_not hs), sg_cl hs]
theorem argL_m1 (p : Int32) : argL (-1) p = [] := rfl
theorem argL_ln (x p : Int32) : (argL x p).length ≤ 1 := by unfold argL; split <;> simp
theorem tmL_ln (t : Nat → Int32) : (tmL t).length ≤ 2 := by
  have a := argL_ln (t 2) (t 5)
  have b := argL_ln (t 3) (t 6)
  unfold tmL; rw [List.length_append]; omega
def stB (v : RV) (i : Nat) : List (Nat × Int32) := match i with
  | 0 => []
  | j + 1 => stL v j
theorem stL_eq (v : RV) (i : Nat) : stL v i = stB v i ++ (if 1 ≤ i ∧ tmI v i 0 = 0 then [] else tmL (tmI v i)) := by
  cases i with
  | zero => rw [if_neg (by omega)]; rfl
  | succ j =>
    show stL v j ++ (if v.2.1 j 0 = 0 then [] else tmL (v.2.1 j)) = stL v j ++ (if 1 ≤ j + 1 ∧ v.2.1 j 0 = 0 then [] else tmL (v.2.1 j))
    congr 1
    by_cases e : v.2.1 j 0 = 0
    · rw [if_pos e, if_pos ⟨by omega, e⟩]
    · rw [if_neg e, if_neg (fun z => e z.2)]
theorem stL_lt {v w : RV} : ∀ {j : Nat}, (∀ m, m ≤ j → tmI v m = tmI w m) → stL v j = stL w j
  | 0, h => by show tmL v.1 = tmL w.1; rw [show v.1 = w.1 from h 0 (Nat.le_refl _)]
  | j + 1, h => by
    rw [stL_eq v (j + 1), stL_eq w (j + 1), h (j + 1) (Nat.le_refl _)]
    show stL v j ++ _ = stL w j ++ _
    rw [stL_lt (fun m hm => h m (by omega))]
theorem stL_ln (v : RV) : ∀ i, (stL v i).length ≤ 2 * (i + 1)
  | 0 => tmL_ln _
  | i + 1 => by
    have h1 := stL_ln v i
    have h2 := tmL_ln (v.2.1 i)
    show (stL v i ++ _).length ≤ _
    rw [List.length_append]
    split
    · simp only [List.length_nil]; omega
    · omega
theorem tmL_arg {f : Nat → Int32} {b : Bool} {x p : Int32} (h3 : f 3 = -1) (h2 : b = true → f 2 = -1) : tmL (tArg f b x p) = tmL f ++ argL x p := by
  unfold tmL
  cases b with
  | true =>
    show argL x p ++ argL (f 3) (f 6) = argL (f 2) (f 5) ++ argL (f 3) (f 6) ++ argL x p
    rw [h3, h2 rfl, argL_m1, argL_m1, List.append_nil]; rfl
  | false =>
    show argL (f 2) (f 5) ++ argL x p = argL (f 2) (f 5) ++ argL (f 3) (f 6) ++ argL x p
    rw [h3, argL_m1, List.append_nil]
theorem stL_arg {v u : RV} {i : Nat} {b : Bool} {x p : Int32} (hu : u.1 = v.1 ∧ u.2.1 = v.2.1) (h3 : tmI v i 3 = -1) (h2 : b = true → tmI v i 2 = -1) : stL (stT u i (tArg (tmI v i) b x p)) i = stL v i ++ (if 1 ≤ i ∧ tmI v i 0 = 0 then [] else argL x p) := by
  have hoth : ∀ j, j < i → tmI (stT u i (tArg (tmI v i) b x p)) j = tmI v j := fun j hj => (tmI_st_ne (by omega)).trans (tmI_cong hu.1 hu.2 j)
  rw [stL_eq, stL_eq v i, stT_tm, (tArg_get (tmI v i) b x p).1]
  have e : stB (stT u i (tArg (tmI v i) b x p)) i = stB v i := by
    cases i with
    | zero => rfl
    | succ j => exact stL_lt (fun m hm => hoth m (by omega))
  rw [e]
  by_cases c : 1 ≤ i ∧ tmI v i 0 = 0
  · simp only [if_pos c, List.append_nil]
  · rw [if_neg c, if_neg c, tmL_arg h3 h2, List.append_assoc, if_neg c]
theorem sgIn_arg {f : Nat → Int32} {b : Bool} {x p : Int32} {s : Nat} (hs : s < 3) (h3 : f 3 = -1) (h2 : b = true → f 2 = -1) : sgIn (tArg f b x p) s ↔ sgIn f s ∨ x = nI (100 + s) := by
  have n1 : ∀ {y : Int32}, y = -1 → ¬ y = nI (100 + s) := fun e z => sg_ne hs (z.symm.trans e)
  unfold sgIn
  cases b with
  | true =>
    show (x = nI (100 + s) ∨ f 3 = nI (100 + s)) ↔ _
    exact ⟨fun z => z.elim (fun y => Or.inr y) (fun y => absurd y (n1 h3)), fun z => z.elim (fun y => y.elim (fun y => absurd y (n1 (h2 rfl))) (fun y => absurd y (n1 h3))) Or.inl⟩
  | false =>
    show (f 2 = nI (100 + s) ∨ x = nI (100 + s)) ↔ _
    exact ⟨fun z => z.elim (fun y => Or.inl (Or.inl y)) Or.inr, fun z => z.elim (fun y => y.elim Or.inl (fun y => absurd y (n1 h3))) Or.inr⟩
theorem inA_arg {v u : RV} {i : Nat} {b : Bool} {x p : Int32} {s : Nat} (hu : u.1 = v.1 ∧ u.2.1 = v.2.1) (hs : s < 3) (h3 : tmI v i 3 = -1) (h2 : b = true → tmI v i 2 = -1) : inA (stT u i (tArg (tmI v i) b x p)) i s ↔ inA v i s ∨ ((1 ≤ i ∧ tmI v i 0 = 0) ∧ x = nI (100 + s)) := by
  have hoth : ∀ j, j < i → tmI (stT u i (tArg (tmI v i) b x p)) j = tmI v j := fun j hj => (tmI_st_ne (by omega)).trans (tmI_cong hu.1 hu.2 j)
  constructor
  · rintro ⟨j, j1, j2, j3, j4⟩
    by_cases e : j = i
    · subst e
      rw [stT_tm] at j3 j4
      rw [(tArg_get (tmI v j) b x p).1] at j3
      rcases (sgIn_arg hs h3 h2).mp j4 with z | z
      · exact Or.inl ⟨j, j1, j2, j3, z⟩
      · exact Or.inr ⟨⟨j1, j3⟩, z⟩
    · rw [hoth j (by omega)] at j3 j4
      exact Or.inl ⟨j, j1, j2, j3, j4⟩
  · rintro (⟨j, j1, j2, j3, j4⟩ | ⟨⟨j1, j3⟩, z⟩)
    · by_cases e : j = i
      · subst e
        exact ⟨j, j1, j2, by rw [stT_tm, (tArg_get (tmI v j) b x p).1]; exact j3, by rw [stT_tm]; exact (sgIn_arg hs h3 h2).mpr (Or.inl j4)⟩
      · exact ⟨j, j1, j2, by rw [hoth j (by omega)]; exact j3, by rw [hoth j (by omega)]; exact j4⟩
    · exact ⟨i, j1, Nat.le_refl _, by rw [stT_tm, (tArg_get (tmI v i) b x p).1]; exact j3, by rw [stT_tm]; exact (sgIn_arg hs h3 h2).mpr (Or.inr z)⟩
theorem b3_or : ∀ B, B < 8 → ∀ s, s < 3 → nI B ||| ((1 : Int32) <<< (nI s &&& 31)) = nI (B ||| 2 ^ s) ∧ B ||| 2 ^ s < 8 ∧ ∀ r, r < 3 → ((B ||| 2 ^ s).testBit r = true ↔ (B.testBit r = true ∨ r = s)) := by decide +kernel
theorem bdS_or {v v' : RV} {i s : Nat} {g g' : Nat → Int32} (h : bdS v i g) (hs : s < 3) (e : g' 29 = g 29 ||| ((1 : Int32) <<< (nI s &&& 31))) (hin : ∀ r, r < 3 → (inA v' i r ↔ inA v i r ∨ r = s)) : bdS v' i g' := by
  obtain ⟨B, b1, b2, b3⟩ := h
  obtain ⟨c1, c2, c3⟩ := b3_or B b1 s hs
  exact ⟨B ||| 2 ^ s, c2, by rw [e, b2]; exact c1, fun r hr => by rw [c3 r hr, hin r hr, b3 r hr]⟩
theorem bdS_eq {v v' : RV} {i i' : Nat} {g g' : Nat → Int32} (h : bdS v i g) (e : g' 29 = g 29) (hin : ∀ r, r < 3 → (inA v' i' r ↔ inA v i r)) : bdS v' i' g' := by
  obtain ⟨B, b1, b2, b3⟩ := h
  exact ⟨B, b1, e.trans b2, fun r hr => by rw [hin r hr]; exact b3 r hr⟩
theorem stM_eq {l l' : List (Nat × Int32)} {g g' : Nat → Int32} {ar ar' : Nat → Nat → Int32} (h : stM l g ar) (e : l' = l) (e28 : g' 28 = g 28) (e17 : ar' 217 = ar 217) (e18 : ar' 218 = ar 218) : stM l' g' ar' := by
  subst e
  exact ⟨e28.trans h.1, fun j s p z => by rw [e17, e18]; exact h.2 j s p z⟩
theorem stM_add {l l' : List (Nat × Int32)} {g g' : Nat → Int32} {ar ar' : Nat → Nat → Int32} {s : Nat} {p : Int32} (h : stM l g ar) (e : l' = l ++ [(s, p)]) (e28 : g' 28 = nI (l.length + 1)) (e17 : ar' 217 = upd (ar 217) l.length p) (e18 : ar' 218 = upd (ar 218) l.length (nI s)) : stM l' g' ar' := by
  subst e
  refine ⟨by rw [e28, List.length_append]; rfl, fun j s' p' z => ?_⟩
  rw [e17, e18]
  by_cases c : j = l.length
  · subst c
    rw [List.getElem?_append_right (Nat.le_refl _)] at z
    simp at z
    rw [upd_at9, upd_at9, z.1, z.2]; exact ⟨rfl, rfl⟩
  · rw [upd_nq c, upd_nq c]
    have hlt : j < l.length := by
      rcases Nat.lt_or_ge j l.length with y | y
      · exact y
      · rw [List.getElem?_eq_none (by rw [List.length_append]; simp; omega)] at z; cases z
    rw [List.getElem?_append_left hlt] at z
    exact h.2 j s' p' z
theorem dr9.st {h : xHp} {a : Nat} {v : RV} {m T i : Nat} {pl : Int32} {X : XP} (d : dr9 h a v m T pl X) (hm : m ≤ i) (f : Nat → Int32) : dr9 h a (stT v i f) m T pl X := by
  obtain ⟨so, kd, on, tz, lt, c, e, l, dx⟩ := d
  refine ⟨so, kd, on, tz, lt, by rw [stT_sz]; exact c, fun j hj => by rw [tmI_st_ne (by omega)]; exact e j hj, fun j hj => by rw [stT_sz] at hj ⊢; exact l j hj, dx⟩
theorem th_lt {t : Nat} (h : t < 100) : nI t < 100 := by rw [show (100 : Int32) = nI 100 from rfl, nI_ltI (by omega) (by omega)]; exact h
theorem th_ne {t s : Nat} (hs : s < 3) (h : t < 100) : ¬ nI t = nI (100 + s) := fun z => by rw [nI_eq (by omega) (by omega)] at z; omega
theorem sLook_cong {lt lt' : Nat → Int32} {c : Int32} : ∀ {n : Nat}, (∀ j, j < n → lt j = lt' j) → sLook lt c n = sLook lt' c n := by
  intro n
  induction n with
  | zero => intro _; rfl
  | succ n ih =>
    intro h
    have e := ih (fun j hj => h j (by omega))
    unfold sLook at e ⊢
    simp only [fa_first, e, h n (Nat.lt_succ_self n)]
set_option maxRecDepth 100000 in
set_option maxHeartbeats 4000000 in
theorem k_X14_readArg {G : xG} {h1 : xHp} {g0 : Nat → Int32} {ar0 : Nat → Nat → Int32} {rf : Nat → Option Nat} {rc : Nat} {b : Nat → Nat} {n ts : Nat} {tk : Nat → Tk} {pos : Nat → Nat} (tT : tkT b n ts tk pos) (hn4 : n ≤ 400) (hb : ∀ k, k < n → b k < 256) (h09 : g0 19 = nI n) (hT0 : tpM ar0 b n) {h : xHp} {q : PQ} {v : RV} {k i m T : Nat} {pl : Int32} {X : XP} {g : Nat → Int32} {w : Int64} {ar : Nat → Nat → Int32} {tw kw : Nat → Int64} (MM : MR9 h1 h g0 ar0 rf rc tk pos q v k i m T pl X g w ar tw kw) (hk : k < ts) (hmi : m ≤ i) (hi : i ≤ 4) (hs3 : v.2.2.2.2 ≤ 3) {bf bd9 : Bool} (hbd9 : bd9 = true ↔ (1 ≤ i ∧ tmI v i 0 = 0)) (hA3 : tmI v i 3 = -1) (hA2 : bf = true → tmI v i 2 = -1) (hlen9 : (stL v i).length < 10) : MX G mX14_readArg 3 0 0 [.ref 205, .int (bi bd9)] h (fun o h' => (∃ e p, pArg tk q v k i bf = .inl (e, p) ∧ o = .inr 215 ∧ h'.1 215 = some (sC (nI e) (nI p)) ∧ ∃ q', extQ q q' ∧ MB h1 h' g0 ar0 rf q') ∨ ∃ q' v' x, pArg tk q v k i bf = .inr (q', v') ∧ o = .inl (some (.int x)) ∧ x = tmI v' i (if bf = true then 2 else 3) ∧ ∃ g' w' ar' tw' kw', MR9 h1 h' g0 ar0 rf rc tk pos (q') (v') (k + 1) i m T pl X g' w' ar' tw' kw') := by
  obtain ⟨M, cu, gk, ak, qm, ⟨hg4, hg5, hg6⟩, dr, sm, bd, fr⟩ := MM
  have hO := (tkT_ok tT hn4 hb).1 k hk
  have h19 : g 19 = nI n := (gk 19 (by omega)).trans h09
  have hT : tpM ar b n := ⟨hT0.1, fun i hi => by rw [ak 216 (by decide)]; exact hT0.2 i hi⟩
  have ha6 : 226 ≤ h1.2 := by have := fr.1.1; omega
  refine MX.of [(0, .ref 205), (1, .int (bi bd9))] (by decide) rfl (Nat.le_of_ble_eq_true rfl) rfl ?_
  refine x_aload_n dX14_readArg_0 rfl ?_
  refine x_get lf_X14_115 dX14_readArg_1 M.o rfl ?_
  refine x_iconst (v := 2) dX14_readArg_4 (by decide) ?_
  refine x_icmp_ne 19 dX14_readArg_5 (by decide) (fun c_5 => ?_) (fun c_5 => ?_)
  · refine x_aload_n dX14_readArg_19 rfl ?_
    refine x_get lf_X14_115 dX14_readArg_20 M.o rfl ?_
    refine x_iconst (v := 3) dX14_readArg_23 (by decide) ?_
    refine x_icmp_eq 37 dX14_readArg_24 (by decide) (fun c_24 => ?_) (fun c_24 => ?_)
    · have e3 := (cur_s cu).2.1.mp c_24
      have n2 : ¬ (tk k).1 = 2 := by omega
      obtain ⟨k1, k2, k5⟩ := cu.2.2.2.2.1 e3
      obtain ⟨hk1, hlx⟩ := tkT_nx tT hk (by omega)
      obtain ⟨so, kd, on, tz, lt, dc, de, dl, dx⟩ := dr
      refine x_aload_n dX14_readArg_37 rfl ?_
      refine x_get lf_X14_146 dX14_readArg_38 M.o rfl ?_
      refine x_aload_n dX14_readArg_41 rfl ?_
      refine x_get lf_X14_118 dX14_readArg_42 M.o rfl ?_
      refine x_top (y := cS (tk k)) k2 ?_
      refine x_callV (As := [.int (cS (tk k))]) (st := []) lv_X14_150 (k_X12_sign dc hs3) dX14_readArg_45 dc.1 rfl rfl (Nat.le_of_ble_eq_true rfl) ⟨by decide, by decide⟩ ⟨by decide, by decide⟩ (fun v9 h9 z => ?_) (fun _ _ _ _ _ z => by rcases z with ⟨_, z, _⟩ | ⟨_, z, _⟩ <;> cases z)
      rcases z with ⟨z1, ev, eh⟩ | ⟨z1, ev, eh⟩ <;> cases ev <;> rw [eh]
      · have hs9 : sLook lt (cS (tk k)) v.2.2.2.2 < 3 := by omega
        refine x_istore_n [(0, .ref 205), (1, .int (bi bd9)), (2, .int (nI (sLook lt (cS (tk k)) v.2.2.2.2)))] dX14_readArg_48 (by decide) rfl rfl ?_
        refine x_iload_n dX14_readArg_49 rfl ?_
        refine x_iconst (v := (-1)) dX14_readArg_50 (by decide) ?_
        refine x_icmp_ne 109 dX14_readArg_51 (by decide) (fun c_51 => ?_) (fun c_51 => absurd c_51 (nI_m1 (by omega)))
        refine x_iload_n dX14_readArg_109 rfl ?_
        refine x_if_eq 128 dX14_readArg_110 (by decide) (fun c_110 => ?_) (fun c_110 => ?_)
        · have c_110 := bi_f c_110
          have hln : (stL v i).length < 10 := hlen9
          refine x_aload_n dX14_readArg_128 rfl ?_
          refine x_get lf_X14_57 dX14_readArg_129 M.o rfl ?_
          refine x_aload_n dX14_readArg_132 rfl ?_
          refine x_get lf_X14_162 dX14_readArg_133 M.o rfl ?_
          refine x_top (y := nI ((stL v i).length)) sm.1 ?_
          refine x_aload_n dX14_readArg_136 rfl ?_
          refine x_get lf_X14_114 dX14_readArg_137 M.o rfl ?_
          refine x_top (y := nI ((tk k).2.1)) cu.1 ?_
          refine x_iastN (j := (stL v i).length) (M.a 217 0 10 rfl) rfl (by omega) (by decide) dX14_readArg_140 ?_
          refine x_aload_n dX14_readArg_141 rfl ?_
          refine x_get lf_X14_60 dX14_readArg_142 ((xup_ne (by omega)).trans M.o) rfl ?_
          refine x_aload_n dX14_readArg_145 rfl ?_
          refine x_get lf_X14_162 dX14_readArg_146 ((xup_ne (by omega)).trans M.o) rfl ?_
          refine x_top (y := nI ((stL v i).length)) sm.1 ?_
          refine x_iload_n dX14_readArg_149 rfl ?_
          refine x_iastN (j := (stL v i).length) ((xup_ne (by omega)).trans (M.a 218 0 10 rfl)) rfl (by omega) (by decide) dX14_readArg_150 ?_
          refine x_aload_n dX14_readArg_151 rfl ?_
          refine x_dup dX14_readArg_152 rfl ?_
          refine x_get lf_X14_162 dX14_readArg_153 ((xup_ne (by omega)).trans ((xup_ne (by omega)).trans M.o)) rfl ?_
          refine x_top (y := nI ((stL v i).length)) sm.1 ?_
          refine x_iconst (v := 1) dX14_readArg_156 (by decide) ?_
          refine x_iadd dX14_readArg_157 ?_
          refine x_top (y := nI (((stL v i).length) + 1)) (nI_add ((stL v i).length) 1) ?_
          refine x_put (mL (upd g 28 (nI (((stL v i).length) + 1))) w (.ref h1.2)) lf_X14_162 dX14_readArg_158 ((xup_ne (by omega)).trans ((xup_ne (by omega)).trans M.o)) (Nat.le_of_ble_eq_true rfl) rfl rfl rfl ?_
          refine x_aload_n dX14_readArg_161 rfl ?_
          refine x_callV (As := []) (st := []) lv_X14_143 (k_X14_next (((M.a9 (c := 217) rfl (upd (ar 217) ((stL v i).length) (nI ((tk k).2.1)))).a9 (c := 218) rfl (upd (ar 218) ((stL v i).length) (nI (sLook lt (cS (tk k)) v.2.2.2.2)))).g9 (upd g 28 (nI (((stL v i).length) + 1))) w (.ref h1.2)) hT hlx h19 k5) dX14_readArg_162 (xup_self _ _ _) rfl rfl (Nat.le_of_ble_eq_true rfl) ⟨by decide, by decide⟩ ⟨by decide, by decide⟩ (fun v9 h5 z => ?_) (fun _ _ _ _ _ z => by cases z.1)
          obtain ⟨ev, y5, g5, w5, M5, s5, cu5⟩ := z
          cases ev
          refine x_bipush (v := 100) dX14_readArg_165 (by decide) ?_
          refine x_iload_n dX14_readArg_167 rfl ?_
          refine x_iadd dX14_readArg_168 ?_
          refine x_top (y := nI (100 + (sLook lt (cS (tk k)) v.2.2.2.2))) (nI_add 100 (sLook lt (cS (tk k)) v.2.2.2.2)) ?_
          have hlk : sLook lt (cS (tk k)) v.2.2.2.2 = sLook v.2.2.2.1 (cS (tk k)) v.2.2.2.2 := sLook_cong dl
          have hlk2 := hlk
          have hx9 : nI (100 + (sLook lt (cS (tk k)) v.2.2.2.2)) = nI (100 + sLook v.2.2.2.1 (cS (tk k)) v.2.2.2.2) := by rw [hlk]
          have z1' : sLook v.2.2.2.1 (cS (tk k)) v.2.2.2.2 < v.2.2.2.2 := by rw [← hlk]; exact z1
          have fr2 : frM h1 (xup (xup (xup h 217 (.inl (0, 10, .inl (upd (ar 217) ((stL v i).length) (nI ((tk k).2.1)))))) 218 (.inl (0, 10, .inl (upd (ar 218) ((stL v i).length) (nI (sLook lt (cS (tk k)) v.2.2.2.2)))))) 205 (.inr (14, mL (upd g 28 (nI (((stL v i).length) + 1))) w (.ref h1.2)))) := ⟨fr.1, fun q9 hq9 => (xup_ne (by omega)).trans ((xup_ne (by omega)).trans ((xup_ne (by omega)).trans (fr.2 q9 hq9)))⟩
          have dr2 : dr9 (xup (xup (xup h 217 (.inl (0, 10, .inl (upd (ar 217) ((stL v i).length) (nI ((tk k).2.1)))))) 218 (.inl (0, 10, .inl (upd (ar 218) ((stL v i).length) (nI (sLook lt (cS (tk k)) v.2.2.2.2)))))) 205 (.inr (14, mL (upd g 28 (nI (((stL v i).length) + 1))) w (.ref h1.2)))) h1.2 v m T pl X := ⟨so, kd, on, tz, lt, ⟨((xup_ne (by omega)).trans ((xup_ne (by omega)).trans ((xup_ne (by omega)).trans dc.1))), ((xup_ne (by omega)).trans ((xup_ne (by omega)).trans ((xup_ne (by omega)).trans dc.2.1))), ((xup_ne (by omega)).trans ((xup_ne (by omega)).trans ((xup_ne (by omega)).trans dc.2.2.1))), ((xup_ne (by omega)).trans ((xup_ne (by omega)).trans ((xup_ne (by omega)).trans dc.2.2.2.1))), ((xup_ne (by omega)).trans ((xup_ne (by omega)).trans ((xup_ne (by omega)).trans dc.2.2.2.2.1))), ((xup_ne (by omega)).trans ((xup_ne (by omega)).trans ((xup_ne (by omega)).trans dc.2.2.2.2.2)))⟩, de, dl, dx⟩
          have hB : ¬ (1 ≤ i ∧ tmI v i 0 = 0) := by rw [← hbd9]; rw [c_110]; decide
          exact x_iret dX14_readArg_169 rfl rfl (Nat.le_refl _) (Nat.le_refl _) (Or.inr ⟨q, stT v i (tArg (tmI v i) bf (nI (100 + sLook v.2.2.2.1 (cS (tk k)) v.2.2.2.2)) (nI (tk k).2.1)), _, (by unfold pArg; rw [if_neg n2, if_pos e3, if_pos z1']), rfl, (by rw [stT_tm]; cases bf <;> exact hx9), g5, w5, _, tw, kw, M5, cu5, (gk.up (by omega)).same s5, ((ak.up (by omega)).up (by omega)), qm, ⟨(s5 4 (by omega)).trans hg4, (s5 5 (by omega)).trans hg5, (s5 6 (by omega)).trans hg6⟩, (dr2.y ha6 y5).st hmi _, stM_add sm (by rw [stL_arg (v := v) (u := v) ⟨rfl, rfl⟩ hA3 hA2, if_neg hB, argL_sg (by omega), hlk]) ((s5 28 (by omega)).trans rfl) rfl rfl, bdS_eq bd (s5 29 (by omega)) (fun r hr => (inA_arg (v := v) (u := v) ⟨rfl, rfl⟩ hr hA3 hA2).trans ⟨fun z => z.elim id (fun z => absurd z.1 hB), Or.inl⟩), fr2.y y5⟩)
        · have c_110 := bi_t c_110
          refine x_aload_n dX14_readArg_113 rfl ?_
          refine x_dup dX14_readArg_114 rfl ?_
          refine x_get lf_X14_159 dX14_readArg_115 M.o rfl ?_
          refine x_iconst (v := 1) dX14_readArg_118 (by decide) ?_
          refine x_iload_n dX14_readArg_119 rfl ?_
          refine x_ishl dX14_readArg_120 ?_
          refine x_ior dX14_readArg_121 ?_
          refine x_put (mL (upd g 29 ((g 29) ||| (1 <<< ((nI (sLook lt (cS (tk k)) v.2.2.2.2)) &&& 31)))) w (.ref h1.2)) lf_X14_159 dX14_readArg_122 M.o (Nat.le_of_ble_eq_true rfl) rfl rfl rfl ?_
          refine x_goto 161 dX14_readArg_125 (by decide) ?_
          refine x_aload_n dX14_readArg_161 rfl ?_
          refine x_callV (As := []) (st := []) lv_X14_143 (k_X14_next (M.g9 (upd g 29 ((g 29) ||| (1 <<< ((nI (sLook lt (cS (tk k)) v.2.2.2.2)) &&& 31)))) w (.ref h1.2)) hT hlx h19 k5) dX14_readArg_162 (xup_self _ _ _) rfl rfl (Nat.le_of_ble_eq_true rfl) ⟨by decide, by decide⟩ ⟨by decide, by decide⟩ (fun v9 h5 z => ?_) (fun _ _ _ _ _ z => by cases z.1)
          obtain ⟨ev, y5, g5, w5, M5, s5, cu5⟩ := z
          cases ev
          refine x_bipush (v := 100) dX14_readArg_165 (by decide) ?_
          refine x_iload_n dX14_readArg_167 rfl ?_
          refine x_iadd dX14_readArg_168 ?_
          refine x_top (y := nI (100 + (sLook lt (cS (tk k)) v.2.2.2.2))) (nI_add 100 (sLook lt (cS (tk k)) v.2.2.2.2)) ?_
          have hlk : sLook lt (cS (tk k)) v.2.2.2.2 = sLook v.2.2.2.1 (cS (tk k)) v.2.2.2.2 := sLook_cong dl
          have hlk2 := hlk
          have hx9 : nI (100 + (sLook lt (cS (tk k)) v.2.2.2.2)) = nI (100 + sLook v.2.2.2.1 (cS (tk k)) v.2.2.2.2) := by rw [hlk]
          have z1' : sLook v.2.2.2.1 (cS (tk k)) v.2.2.2.2 < v.2.2.2.2 := by rw [← hlk]; exact z1
          have fr2 : frM h1 (xup h 205 (.inr (14, mL (upd g 29 ((g 29) ||| (1 <<< ((nI (sLook lt (cS (tk k)) v.2.2.2.2)) &&& 31)))) w (.ref h1.2)))) := ⟨fr.1, fun q9 hq9 => (xup_ne (by omega)).trans (fr.2 q9 hq9)⟩
          have dr2 : dr9 (xup h 205 (.inr (14, mL (upd g 29 ((g 29) ||| (1 <<< ((nI (sLook lt (cS (tk k)) v.2.2.2.2)) &&& 31)))) w (.ref h1.2)))) h1.2 v m T pl X := ⟨so, kd, on, tz, lt, ⟨((xup_ne (by omega)).trans dc.1), ((xup_ne (by omega)).trans dc.2.1), ((xup_ne (by omega)).trans dc.2.2.1), ((xup_ne (by omega)).trans dc.2.2.2.1), ((xup_ne (by omega)).trans dc.2.2.2.2.1), ((xup_ne (by omega)).trans dc.2.2.2.2.2)⟩, de, dl, dx⟩
          have hB : 1 ≤ i ∧ tmI v i 0 = 0 := by rw [← hbd9]; exact c_110
          exact x_iret dX14_readArg_169 rfl rfl (Nat.le_refl _) (Nat.le_refl _) (Or.inr ⟨q, stT v i (tArg (tmI v i) bf (nI (100 + sLook v.2.2.2.1 (cS (tk k)) v.2.2.2.2)) (nI (tk k).2.1)), _, (by unfold pArg; rw [if_neg n2, if_pos e3, if_pos z1']), rfl, (by rw [stT_tm]; cases bf <;> exact hx9), g5, w5, _, tw, kw, M5, cu5, (gk.up (by omega)).same s5, ak, qm, ⟨(s5 4 (by omega)).trans hg4, (s5 5 (by omega)).trans hg5, (s5 6 (by omega)).trans hg6⟩, (dr2.y ha6 y5).st hmi _, stM_eq sm (by rw [stL_arg (v := v) (u := v) ⟨rfl, rfl⟩ hA3 hA2, if_pos hB]; simp) (s5 28 (by omega)) rfl rfl, bdS_or (s := sLook lt (cS (tk k)) v.2.2.2.2) bd (by omega) ((s5 29 (by omega)).trans rfl) (fun r hr => (inA_arg (v := v) (u := v) ⟨rfl, rfl⟩ hr hA3 hA2).trans ⟨fun z => z.imp id (fun z => by have := z.2; rw [nI_eq (by omega) (by omega)] at this; omega), fun z => z.imp id (fun z => ⟨hB, by rw [z, hlk]⟩)⟩), fr2.y y5⟩)
      · refine x_istore_n [(0, .ref 205), (1, .int (bi bd9)), (2, .int (-1))] dX14_readArg_48 (by decide) rfl rfl ?_
        refine x_iload_n dX14_readArg_49 rfl ?_
        refine x_iconst (v := (-1)) dX14_readArg_50 (by decide) ?_
        refine x_icmp_ne 109 dX14_readArg_51 (by decide) (fun c_51 => absurd c_51 (fun z => z rfl)) (fun c_51 => ?_)
        refine x_aload_n dX14_readArg_54 rfl ?_
        refine x_get lf_X14_146 dX14_readArg_55 M.o rfl ?_
        refine x_get lf_X14_153 dX14_readArg_58 dc.1 rfl ?_
        refine x_iconst (v := 3) dX14_readArg_61 (by decide) ?_
        refine x_icmp_ne 75 dX14_readArg_62 (by decide) (fun c_62 => ?_) (fun c_62 => ?_)
        · rw [show (3 : Int32) = nI 3 from rfl, nI_eq (by omega) (by omega)] at c_62
          refine x_aload_n dX14_readArg_75 rfl ?_
          refine x_get lf_X14_146 dX14_readArg_76 M.o rfl ?_
          refine x_get lf_X14_153 dX14_readArg_79 dc.1 rfl ?_
          refine x_istore_n [(0, .ref 205), (1, .int (bi bd9)), (2, .int (nI v.2.2.2.2))] dX14_readArg_82 (by decide) rfl rfl ?_
          refine x_aload_n dX14_readArg_83 rfl ?_
          refine x_get lf_X14_146 dX14_readArg_84 M.o rfl ?_
          refine x_get lf_X14_156 dX14_readArg_87 dc.1 rfl ?_
          refine x_iload_n dX14_readArg_90 rfl ?_
          refine x_aload_n dX14_readArg_91 rfl ?_
          refine x_get lf_X14_118 dX14_readArg_92 M.o rfl ?_
          refine x_top (y := cS (tk k)) k2 ?_
          refine x_iastN (j := v.2.2.2.2) dc.2.2.2.2.2 rfl (by omega) (by decide) dX14_readArg_95 ?_
          refine x_aload_n dX14_readArg_96 rfl ?_
          refine x_get lf_X14_146 dX14_readArg_97 ((xup_ne (by omega)).trans M.o) rfl ?_
          refine x_dup dX14_readArg_100 rfl ?_
          refine x_get lf_X14_153 dX14_readArg_101 ((xup_ne (by omega)).trans dc.1) rfl ?_
          refine x_iconst (v := 1) dX14_readArg_104 (by decide) ?_
          refine x_iadd dX14_readArg_105 ?_
          refine x_top (y := nI (v.2.2.2.2 + 1)) (nI_add v.2.2.2.2 1) ?_
          refine x_put [.int (nI T), .int (nI (v.2.2.2.2 + 1)), .int pl, .ref (h1.2 + 1), .ref (h1.2 + 2), .ref (h1.2 + 3), .ref (h1.2 + 4), .ref (h1.2 + 5)] lf_X14_153 dX14_readArg_106 ((xup_ne (by omega)).trans dc.1) (Nat.le_of_ble_eq_true rfl) rfl rfl rfl ?_
          refine x_iload_n dX14_readArg_109 rfl ?_
          refine x_if_eq 128 dX14_readArg_110 (by decide) (fun c_110 => ?_) (fun c_110 => ?_)
          · have c_110 := bi_f c_110
            have hln : (stL v i).length < 10 := hlen9
            refine x_aload_n dX14_readArg_128 rfl ?_
            refine x_get lf_X14_57 dX14_readArg_129 ((xup_ne (by omega)).trans ((xup_ne (by omega)).trans M.o)) rfl ?_
            refine x_aload_n dX14_readArg_132 rfl ?_
            refine x_get lf_X14_162 dX14_readArg_133 ((xup_ne (by omega)).trans ((xup_ne (by omega)).trans M.o)) rfl ?_
            refine x_top (y := nI ((stL v i).length)) sm.1 ?_
            refine x_aload_n dX14_readArg_136 rfl ?_
            refine x_get lf_X14_114 dX14_readArg_137 ((xup_ne (by omega)).trans ((xup_ne (by omega)).trans M.o)) rfl ?_
            refine x_top (y := nI ((tk k).2.1)) cu.1 ?_
            refine x_iastN (j := (stL v i).length) ((xup_ne (by omega)).trans ((xup_ne (by omega)).trans (M.a 217 0 10 rfl))) rfl (by omega) (by decide) dX14_readArg_140 ?_
            refine x_aload_n dX14_readArg_141 rfl ?_
            refine x_get lf_X14_60 dX14_readArg_142 ((xup_ne (by omega)).trans ((xup_ne (by omega)).trans ((xup_ne (by omega)).trans M.o))) rfl ?_
            refine x_aload_n dX14_readArg_145 rfl ?_
            refine x_get lf_X14_162 dX14_readArg_146 ((xup_ne (by omega)).trans ((xup_ne (by omega)).trans ((xup_ne (by omega)).trans M.o))) rfl ?_
            refine x_top (y := nI ((stL v i).length)) sm.1 ?_
            refine x_iload_n dX14_readArg_149 rfl ?_
            refine x_iastN (j := (stL v i).length) ((xup_ne (by omega)).trans ((xup_ne (by omega)).trans ((xup_ne (by omega)).trans (M.a 218 0 10 rfl)))) rfl (by omega) (by decide) dX14_readArg_150 ?_
            refine x_aload_n dX14_readArg_151 rfl ?_
            refine x_dup dX14_readArg_152 rfl ?_
            refine x_get lf_X14_162 dX14_readArg_153 ((xup_ne (by omega)).trans ((xup_ne (by omega)).trans ((xup_ne (by omega)).trans ((xup_ne (by omega)).trans M.o)))) rfl ?_
            refine x_top (y := nI ((stL v i).length)) sm.1 ?_
            refine x_iconst (v := 1) dX14_readArg_156 (by decide) ?_
            refine x_iadd dX14_readArg_157 ?_
            refine x_top (y := nI (((stL v i).length) + 1)) (nI_add ((stL v i).length) 1) ?_
            refine x_put (mL (upd g 28 (nI (((stL v i).length) + 1))) w (.ref h1.2)) lf_X14_162 dX14_readArg_158 ((xup_ne (by omega)).trans ((xup_ne (by omega)).trans ((xup_ne (by omega)).trans ((xup_ne (by omega)).trans M.o)))) (Nat.le_of_ble_eq_true rfl) rfl rfl rfl ?_
            refine x_aload_n dX14_readArg_161 rfl ?_
            refine x_callV (As := []) (st := []) lv_X14_143 (k_X14_next (((((M.x9 (by omega)).x9 (by omega)).a9 (c := 217) rfl (upd (ar 217) ((stL v i).length) (nI ((tk k).2.1)))).a9 (c := 218) rfl (upd (ar 218) ((stL v i).length) (nI v.2.2.2.2))).g9 (upd g 28 (nI (((stL v i).length) + 1))) w (.ref h1.2)) hT hlx h19 k5) dX14_readArg_162 (xup_self _ _ _) rfl rfl (Nat.le_of_ble_eq_true rfl) ⟨by decide, by decide⟩ ⟨by decide, by decide⟩ (fun v9 h5 z => ?_) (fun _ _ _ _ _ z => by cases z.1)
            obtain ⟨ev, y5, g5, w5, M5, s5, cu5⟩ := z
            cases ev
            refine x_bipush (v := 100) dX14_readArg_165 (by decide) ?_
            refine x_iload_n dX14_readArg_167 rfl ?_
            refine x_iadd dX14_readArg_168 ?_
            refine x_top (y := nI (100 + v.2.2.2.2)) (nI_add 100 v.2.2.2.2) ?_
            have hlk : sLook lt (cS (tk k)) v.2.2.2.2 = sLook v.2.2.2.1 (cS (tk k)) v.2.2.2.2 := sLook_cong dl
            have hx9 : nI (100 + (v.2.2.2.2)) = nI (100 + v.2.2.2.2) := by rfl
            have z1' : ¬ sLook v.2.2.2.1 (cS (tk k)) v.2.2.2.2 < v.2.2.2.2 := by rw [← hlk]; exact z1
            have fr2 : frM h1 (xup (xup (xup (xup (xup h (h1.2 + 5) (.inl (0, 3, .inl (upd lt v.2.2.2.2 (cS (tk k)))))) h1.2 (.inr (12, [.int (nI T), .int (nI (v.2.2.2.2 + 1)), .int pl, .ref (h1.2 + 1), .ref (h1.2 + 2), .ref (h1.2 + 3), .ref (h1.2 + 4), .ref (h1.2 + 5)]))) 217 (.inl (0, 10, .inl (upd (ar 217) ((stL v i).length) (nI ((tk k).2.1)))))) 218 (.inl (0, 10, .inl (upd (ar 218) ((stL v i).length) (nI v.2.2.2.2))))) 205 (.inr (14, mL (upd g 28 (nI (((stL v i).length) + 1))) w (.ref h1.2)))) := ⟨fr.1, fun q9 hq9 => (xup_ne (by omega)).trans ((xup_ne (by omega)).trans ((xup_ne (by omega)).trans ((xup_ne (by omega)).trans ((xup_ne (by omega)).trans (fr.2 q9 hq9)))))⟩
            have dr2 : dr9 (xup (xup (xup (xup (xup h (h1.2 + 5) (.inl (0, 3, .inl (upd lt v.2.2.2.2 (cS (tk k)))))) h1.2 (.inr (12, [.int (nI T), .int (nI (v.2.2.2.2 + 1)), .int pl, .ref (h1.2 + 1), .ref (h1.2 + 2), .ref (h1.2 + 3), .ref (h1.2 + 4), .ref (h1.2 + 5)]))) 217 (.inl (0, 10, .inl (upd (ar 217) ((stL v i).length) (nI ((tk k).2.1)))))) 218 (.inl (0, 10, .inl (upd (ar 218) ((stL v i).length) (nI v.2.2.2.2))))) 205 (.inr (14, mL (upd g 28 (nI (((stL v i).length) + 1))) w (.ref h1.2)))) h1.2 (addS v (cS (tk k))) m T pl X := ⟨so, kd, on, tz, (upd lt v.2.2.2.2 (cS (tk k))), ⟨((xup_ne (by omega)).trans ((xup_ne (by omega)).trans ((xup_ne (by omega)).trans (xup_self _ _ _)))), ((xup_ne (by omega)).trans ((xup_ne (by omega)).trans ((xup_ne (by omega)).trans ((xup_ne (by omega)).trans ((xup_ne (by omega)).trans dc.2.1))))), ((xup_ne (by omega)).trans ((xup_ne (by omega)).trans ((xup_ne (by omega)).trans ((xup_ne (by omega)).trans ((xup_ne (by omega)).trans dc.2.2.1))))), ((xup_ne (by omega)).trans ((xup_ne (by omega)).trans ((xup_ne (by omega)).trans ((xup_ne (by omega)).trans ((xup_ne (by omega)).trans dc.2.2.2.1))))), ((xup_ne (by omega)).trans ((xup_ne (by omega)).trans ((xup_ne (by omega)).trans ((xup_ne (by omega)).trans ((xup_ne (by omega)).trans dc.2.2.2.2.1))))), ((xup_ne (by omega)).trans ((xup_ne (by omega)).trans ((xup_ne (by omega)).trans ((xup_ne (by omega)).trans (xup_self _ _ _)))))⟩, (fun j hj => by rw [show tmI (addS v (cS (tk k))) j = tmI v j from by cases j <;> rfl]; exact de j hj), (fun j hj => by show upd lt v.2.2.2.2 (cS (tk k)) j = upd v.2.2.2.1 v.2.2.2.2 (cS (tk k)) j; by_cases e : j = v.2.2.2.2; rw [e, upd_at9, upd_at9]; rw [upd_nq e, upd_nq e]; exact dl j (by have : j < v.2.2.2.2 + 1 := hj; omega)), dx⟩
            have hB : ¬ (1 ≤ i ∧ tmI v i 0 = 0) := by rw [← hbd9]; rw [c_110]; decide
            exact x_iret dX14_readArg_169 rfl rfl (Nat.le_refl _) (Nat.le_refl _) (Or.inr ⟨q, stT (addS v (cS (tk k))) i (tArg (tmI v i) bf (nI (100 + v.2.2.2.2)) (nI (tk k).2.1)), _, (by unfold pArg; rw [if_neg n2, if_pos e3, if_neg z1', if_pos (by omega)]), rfl, (by rw [stT_tm]; cases bf <;> exact hx9), g5, w5, _, tw, kw, M5, cu5, (gk.up (by omega)).same s5, ((ak.up (by omega)).up (by omega)), qm, ⟨(s5 4 (by omega)).trans hg4, (s5 5 (by omega)).trans hg5, (s5 6 (by omega)).trans hg6⟩, (dr2.y ha6 y5).st hmi _, stM_add sm (by rw [stL_arg (v := v) (u := addS v (cS (tk k))) ⟨rfl, rfl⟩ hA3 hA2, if_neg hB, argL_sg (by omega)]) ((s5 28 (by omega)).trans rfl) rfl rfl, bdS_eq bd (s5 29 (by omega)) (fun r hr => (inA_arg (v := v) (u := addS v (cS (tk k))) ⟨rfl, rfl⟩ hr hA3 hA2).trans ⟨fun z => z.elim id (fun z => absurd z.1 hB), Or.inl⟩), fr2.y y5⟩)
          · have c_110 := bi_t c_110
            refine x_aload_n dX14_readArg_113 rfl ?_
            refine x_dup dX14_readArg_114 rfl ?_
            refine x_get lf_X14_159 dX14_readArg_115 ((xup_ne (by omega)).trans ((xup_ne (by omega)).trans M.o)) rfl ?_
            refine x_iconst (v := 1) dX14_readArg_118 (by decide) ?_
            refine x_iload_n dX14_readArg_119 rfl ?_
            refine x_ishl dX14_readArg_120 ?_
            refine x_ior dX14_readArg_121 ?_
            refine x_put (mL (upd g 29 ((g 29) ||| (1 <<< ((nI v.2.2.2.2) &&& 31)))) w (.ref h1.2)) lf_X14_159 dX14_readArg_122 ((xup_ne (by omega)).trans ((xup_ne (by omega)).trans M.o)) (Nat.le_of_ble_eq_true rfl) rfl rfl rfl ?_
            refine x_goto 161 dX14_readArg_125 (by decide) ?_
            refine x_aload_n dX14_readArg_161 rfl ?_
            refine x_callV (As := []) (st := []) lv_X14_143 (k_X14_next (((M.x9 (by omega)).x9 (by omega)).g9 (upd g 29 ((g 29) ||| (1 <<< ((nI v.2.2.2.2) &&& 31)))) w (.ref h1.2)) hT hlx h19 k5) dX14_readArg_162 (xup_self _ _ _) rfl rfl (Nat.le_of_ble_eq_true rfl) ⟨by decide, by decide⟩ ⟨by decide, by decide⟩ (fun v9 h5 z => ?_) (fun _ _ _ _ _ z => by cases z.1)
            obtain ⟨ev, y5, g5, w5, M5, s5, cu5⟩ := z
            cases ev
            refine x_bipush (v := 100) dX14_readArg_165 (by decide) ?_
            refine x_iload_n dX14_readArg_167 rfl ?_
            refine x_iadd dX14_readArg_168 ?_
            refine x_top (y := nI (100 + v.2.2.2.2)) (nI_add 100 v.2.2.2.2) ?_
            have hlk : sLook lt (cS (tk k)) v.2.2.2.2 = sLook v.2.2.2.1 (cS (tk k)) v.2.2.2.2 := sLook_cong dl
            have hx9 : nI (100 + (v.2.2.2.2)) = nI (100 + v.2.2.2.2) := by rfl
            have z1' : ¬ sLook v.2.2.2.1 (cS (tk k)) v.2.2.2.2 < v.2.2.2.2 := by rw [← hlk]; exact z1
            have fr2 : frM h1 (xup (xup (xup h (h1.2 + 5) (.inl (0, 3, .inl (upd lt v.2.2.2.2 (cS (tk k)))))) h1.2 (.inr (12, [.int (nI T), .int (nI (v.2.2.2.2 + 1)), .int pl, .ref (h1.2 + 1), .ref (h1.2 + 2), .ref (h1.2 + 3), .ref (h1.2 + 4), .ref (h1.2 + 5)]))) 205 (.inr (14, mL (upd g 29 ((g 29) ||| (1 <<< ((nI v.2.2.2.2) &&& 31)))) w (.ref h1.2)))) := ⟨fr.1, fun q9 hq9 => (xup_ne (by omega)).trans ((xup_ne (by omega)).trans ((xup_ne (by omega)).trans (fr.2 q9 hq9)))⟩
            have dr2 : dr9 (xup (xup (xup h (h1.2 + 5) (.inl (0, 3, .inl (upd lt v.2.2.2.2 (cS (tk k)))))) h1.2 (.inr (12, [.int (nI T), .int (nI (v.2.2.2.2 + 1)), .int pl, .ref (h1.2 + 1), .ref (h1.2 + 2), .ref (h1.2 + 3), .ref (h1.2 + 4), .ref (h1.2 + 5)]))) 205 (.inr (14, mL (upd g 29 ((g 29) ||| (1 <<< ((nI v.2.2.2.2) &&& 31)))) w (.ref h1.2)))) h1.2 (addS v (cS (tk k))) m T pl X := ⟨so, kd, on, tz, (upd lt v.2.2.2.2 (cS (tk k))), ⟨((xup_ne (by omega)).trans (xup_self _ _ _)), ((xup_ne (by omega)).trans ((xup_ne (by omega)).trans ((xup_ne (by omega)).trans dc.2.1))), ((xup_ne (by omega)).trans ((xup_ne (by omega)).trans ((xup_ne (by omega)).trans dc.2.2.1))), ((xup_ne (by omega)).trans ((xup_ne (by omega)).trans ((xup_ne (by omega)).trans dc.2.2.2.1))), ((xup_ne (by omega)).trans ((xup_ne (by omega)).trans ((xup_ne (by omega)).trans dc.2.2.2.2.1))), ((xup_ne (by omega)).trans ((xup_ne (by omega)).trans (xup_self _ _ _)))⟩, (fun j hj => by rw [show tmI (addS v (cS (tk k))) j = tmI v j from by cases j <;> rfl]; exact de j hj), (fun j hj => by show upd lt v.2.2.2.2 (cS (tk k)) j = upd v.2.2.2.1 v.2.2.2.2 (cS (tk k)) j; by_cases e : j = v.2.2.2.2; rw [e, upd_at9, upd_at9]; rw [upd_nq e, upd_nq e]; exact dl j (by have : j < v.2.2.2.2 + 1 := hj; omega)), dx⟩
            have hB : 1 ≤ i ∧ tmI v i 0 = 0 := by rw [← hbd9]; exact c_110
            exact x_iret dX14_readArg_169 rfl rfl (Nat.le_refl _) (Nat.le_refl _) (Or.inr ⟨q, stT (addS v (cS (tk k))) i (tArg (tmI v i) bf (nI (100 + v.2.2.2.2)) (nI (tk k).2.1)), _, (by unfold pArg; rw [if_neg n2, if_pos e3, if_neg z1', if_pos (by omega)]), rfl, (by rw [stT_tm]; cases bf <;> exact hx9), g5, w5, _, tw, kw, M5, cu5, (gk.up (by omega)).same s5, ak, qm, ⟨(s5 4 (by omega)).trans hg4, (s5 5 (by omega)).trans hg5, (s5 6 (by omega)).trans hg6⟩, (dr2.y ha6 y5).st hmi _, stM_eq sm (by rw [stL_arg (v := v) (u := addS v (cS (tk k))) ⟨rfl, rfl⟩ hA3 hA2, if_pos hB]; simp) (s5 28 (by omega)) rfl rfl, bdS_or (s := v.2.2.2.2) bd (by omega) ((s5 29 (by omega)).trans rfl) (fun r hr => (inA_arg (v := v) (u := addS v (cS (tk k))) ⟨rfl, rfl⟩ hr hA3 hA2).trans ⟨fun z => z.imp id (fun z => by have := z.2; rw [nI_eq (by omega) (by omega)] at this; omega), fun z => z.imp id (fun z => ⟨hB, by rw [z]⟩)⟩), fr2.y y5⟩)
        · rw [show (3 : Int32) = nI 3 from rfl, nI_eq (by omega) (by omega)] at c_62
          refine x_aload_n dX14_readArg_65 rfl ?_
          refine x_iconst (v := 4) dX14_readArg_66 (by decide) ?_
          refine x_aload_n dX14_readArg_67 rfl ?_
          refine x_get lf_X14_114 dX14_readArg_68 M.o rfl ?_
          refine x_callV (As := [.int 4, .int (g 22)]) (st := []) lv_X14_136 (k_X14_stop M) dX14_readArg_71 M.o rfl rfl (Nat.le_of_ble_eq_true rfl) ⟨by decide, by decide⟩ ⟨by decide, by decide⟩ (fun v9 h9 z => ?_) (fun _ _ _ _ _ z => by cases z.1)
          obtain ⟨ev, eh⟩ := z
          rw [eh]
          cases ev
          refine x_athrow dX14_readArg_74 (x_out (fun x hx => by cases hx) (xup_self _ _ _) (Nat.le_refl _) (Nat.le_refl _) (Or.inl ⟨4, (tk k).2.1, (by unfold pArg; rw [if_neg n2, if_pos e3, if_neg (by rw [← sLook_cong dl]; exact z1), if_neg (by omega)]), rfl, (by rw [← cu.1]; exact xup_self _ _ _), q, extQ_rf q, _, _, _, _, _, _, M.s9 _ _, gk, ak, qm, fr.y ((yfr_rf _).up (by decide))⟩))
    · have n2 : ¬ (tk k).1 = 2 := fun z => c_5 ((cur_s cu).1.mpr z)
      have n3 : ¬ (tk k).1 = 3 := fun z => c_24 ((cur_s cu).2.1.mpr z)
      refine x_aload_n dX14_readArg_27 rfl ?_
      refine x_iconst (v := 1) dX14_readArg_28 (by decide) ?_
      refine x_aload_n dX14_readArg_29 rfl ?_
      refine x_get lf_X14_114 dX14_readArg_30 M.o rfl ?_
      refine x_callV (As := [.int 1, .int (g 22)]) (st := []) lv_X14_136 (k_X14_stop M) dX14_readArg_33 M.o rfl rfl (Nat.le_of_ble_eq_true rfl) ⟨by decide, by decide⟩ ⟨by decide, by decide⟩ (fun v9 h9 z => ?_) (fun _ _ _ _ _ z => by cases z.1)
      obtain ⟨ev, eh⟩ := z
      rw [eh]
      cases ev
      refine x_athrow dX14_readArg_36 (x_out (fun x hx => by cases hx) (xup_self _ _ _) (Nat.le_refl _) (Nat.le_refl _) (Or.inl ⟨1, (tk k).2.1, (by unfold pArg; rw [if_neg n2, if_neg n3]), rfl, (by rw [← cu.1]; exact xup_self _ _ _), q, extQ_rf q, _, _, _, _, _, _, M.s9 _ _, gk, ak, qm, fr.y ((yfr_rf _).up (by decide))⟩))
  · refine x_aload_n dX14_readArg_8 rfl ?_
    have e2 := (cur_s cu).1.mp c_5
    obtain ⟨k1, k2, k3, k4, k5⟩ := cu.2.2.2.1 e2
    obtain ⟨hk1, hlx⟩ := tkT_nx tT hk (by omega)
    refine x_callV (As := []) (st := []) lv_X14_139 (k_X14_thing M qm.1 (hO.2.2 e2).1 (hO.2.2 e2).2 k3 k4 hg4 qm.2.2.2.1) dX14_readArg_9 M.o rfl rfl (Nat.le_of_ble_eq_true rfl) ⟨by decide, by decide⟩ ⟨by decide, by decide⟩ (fun v9 h9 z => ?_) (fun q9 ci9 fs9 h9 hc9 z => ?_)
    rcases z with ⟨z1, ev, eh⟩ | ⟨z1, z2, ev, eh⟩ | ⟨z1, z2, ev, M2, y2, -⟩ <;> cases ev
    · rw [eh]
      refine x_istore_n [(0, .ref 205), (1, .int (bi bd9)), (2, .int (nI (wLook q.2.1 (tk k).2.2 q.1)))] dX14_readArg_12 (by decide) rfl rfl ?_
      refine x_aload_n dX14_readArg_13 rfl ?_
      refine x_callV (As := []) (st := []) lv_X14_143 (k_X14_next M hT hlx h19 k5) dX14_readArg_14 M.o rfl rfl (Nat.le_of_ble_eq_true rfl) ⟨by decide, by decide⟩ ⟨by decide, by decide⟩ (fun v9 h5 z => ?_) (fun _ _ _ _ _ z => by cases z.1)
      obtain ⟨ev, y5, g5, w5, M5, s5, cu5⟩ := z
      cases ev
      refine x_iload_n dX14_readArg_17 rfl ?_
      exact x_iret dX14_readArg_18 rfl rfl (Nat.le_refl _) (Nat.le_refl _) (Or.inr ⟨q, _, _, (by unfold pArg; rw [if_pos e2, if_pos z1]), rfl, (by rw [stT_tm]; cases bf <;> rfl), g5, w5, ar, tw, kw, M5, cu5, gk.same s5, ak, qm, ⟨(s5 4 (by omega)).trans hg4, (s5 5 (by omega)).trans hg5, (s5 6 (by omega)).trans hg6⟩, (dr.y ha6 y5).st hmi _, stM_eq sm (by rw [stL_arg ⟨rfl, rfl⟩ hA3 hA2, argL_th (th_lt (by have := qm.2.2.2.1; omega))]; split <;> simp) (s5 28 (by omega)) rfl rfl, bdS_eq bd (s5 29 (by omega)) (fun r hr => (inA_arg ⟨rfl, rfl⟩ hr hA3 hA2).trans ⟨fun z => z.elim id (fun z => absurd z.2 (th_ne hr (by have := qm.2.2.2.1; omega))), Or.inl⟩), fr.y y5⟩)
    · generalize h9 = h2 at M2 y2 ⊢
      refine x_istore_n [(0, .ref 205), (1, .int (bi bd9)), (2, .int (nI q.1))] dX14_readArg_12 (by decide) rfl rfl ?_
      refine x_aload_n dX14_readArg_13 rfl ?_
      refine x_callV (As := []) (st := []) lv_X14_143 (k_X14_next M2 hT hlx h19 k5) dX14_readArg_14 M2.o rfl rfl (Nat.le_of_ble_eq_true rfl) ⟨by decide, by decide⟩ ⟨by decide, by decide⟩ (fun v9 h5 z => ?_) (fun _ _ _ _ _ z => by cases z.1)
      obtain ⟨ev, y5, g5, w5, M5, s5, cu5⟩ := z
      cases ev
      refine x_iload_n dX14_readArg_17 rfl ?_
      exact x_iret dX14_readArg_18 rfl rfl (Nat.le_refl _) (Nat.le_refl _) (Or.inr ⟨(q.1 + 1, apF q.2.1 q.1 (tk k).2.2, q.2.2), stT v i (tArg (tmI v i) bf (nI q.1) (nI (tk k).2.1)), _, (by unfold pArg; rw [if_pos e2, if_neg z1, if_pos z2]), rfl, (by rw [stT_tm]; cases bf <;> rfl), g5, w5, _, _, kw, M5, cu5, (gk.up (by omega)).same s5, ak.up (by omega), ⟨by rw [k3, k4]; exact wM_add qm.1 (hO.2.2 e2).1 (hO.2.2 e2).2, qm.2.1, qm.2.2.1, z2, qm.2.2.2.2⟩, ⟨(s5 4 (by omega)).trans rfl, (s5 5 (by omega)).trans hg5, (s5 6 (by omega)).trans hg6⟩, (dr.y ha6 (y2.tr y5)).st hmi _, stM_eq sm (by rw [stL_arg ⟨rfl, rfl⟩ hA3 hA2, argL_th (th_lt (by omega))]; split <;> simp) (s5 28 (by omega)) rfl rfl, bdS_eq bd (s5 29 (by omega)) (fun r hr => (inA_arg ⟨rfl, rfl⟩ hr hA3 hA2).trans ⟨fun z => z.elim id (fun z => absurd z.2 (th_ne hr (by omega))), Or.inl⟩), fr.y (y2.tr y5)⟩)
    · rcases z with ⟨z1, ev, eh⟩ | ⟨z1, z2, ev, eh⟩ | ⟨z1, z2, ev, M2, y2, -⟩ <;> cases ev
      subst eh
      exact x_out (fun x hx => by cases hx) hc9 (Nat.le_refl _) (Nat.le_refl _) (Or.inl ⟨4, (tk k).2.1, (by unfold pArg; rw [if_pos e2, if_neg z1, if_neg z2]), rfl, (by rw [← cu.1]; exact xup_self _ _ _), q, extQ_rf q, _, _, _, _, _, _, M.s9 _ _, gk, ak, qm, fr.y ((yfr_rf _).up (by decide))⟩)
