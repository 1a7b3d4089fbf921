/-! the reference: ways, gives -/
def wyT (nt sg w s : Nat) : Nat := w / nt ^ (sg - 1 - s) % nt
theorem wy_s {nt sg w s : Nat} (h : s < sg) : wyT nt (sg + 1) w s = wyT nt sg (w / nt) s := by
  unfold wyT
  rw [show sg + 1 - 1 - s = (sg - 1 - s) + 1 by omega, Nat.pow_succ, Nat.mul_comm, Nat.div_div_eq_div_mul]
theorem wy_z {nt sg w : Nat} : wyT nt (sg + 1) w sg = w % nt := by
  unfold wyT
  rw [show sg + 1 - 1 - sg = 0 by omega, Nat.pow_zero, Nat.div_one]
theorem wy_lt {nt sg w s : Nat} (hw : w < nt ^ sg) (hs : s < sg) : wyT nt sg w s < nt := by
  refine Nat.mod_lt _ (Nat.pos_of_ne_zero fun z => ?_)
  subst z
  rw [Nat.zero_pow (by omega)] at hw
  exact absurd hw (Nat.not_lt_zero _)
theorem wy_ex {nt : Nat} {τ : Nat → Nat} : ∀ (sg : Nat), (∀ s, s < sg → τ s < nt) → ∃ w, w < nt ^ sg ∧ ∀ s, s < sg → wyT nt sg w s = τ s
  | 0, _ => ⟨0, by simp, fun s hs => absurd hs (Nat.not_lt_zero _)⟩
  | sg + 1, h => by
    obtain ⟨w, h1, h2⟩ := wy_ex sg (fun s hs => h s (by omega))
    have ht := h sg (by omega)
    have hq : (nt * w + τ sg) / nt = w := by
      rw [Nat.mul_add_div (by omega), Nat.div_eq_of_lt ht]; rfl
    have hr : (nt * w + τ sg) % nt = τ sg := by
      rw [Nat.mul_add_mod, Nat.mod_eq_of_lt ht]
    refine ⟨nt * w + τ sg, ?_, fun s hs => ?_⟩
    · rw [Nat.pow_succ, Nat.mul_comm (nt ^ sg)]
      have : nt * (w + 1) ≤ nt * nt ^ sg := Nat.mul_le_mul_left _ h1
      rw [Nat.mul_add] at this
      omega
    · by_cases z : s = sg
      · rw [z, wy_z, hr]
      · rw [wy_s (by omega), hq]; exact h2 s (by omega)
theorem wy_lex {nt : Nat} : ∀ (sg : Nat) {w w' : Nat}, w < w' → w' < nt ^ sg → ∃ s, s < sg ∧ (∀ r, r < s → wyT nt sg w r = wyT nt sg w' r) ∧ wyT nt sg w s < wyT nt sg w' s
  | 0, w, w', h, h' => by simp at h'; omega
  | sg + 1, w, w', h, h' => by
    have hp : 0 < nt := Nat.pos_of_ne_zero fun z => by subst z; rw [Nat.zero_pow (by omega)] at h'; exact absurd h' (Nat.not_lt_zero _)
    have e1 := Nat.div_add_mod w nt
    have e2 := Nat.div_add_mod w' nt
    rcases Nat.lt_trichotomy (w / nt) (w' / nt) with z | z | z
    · obtain ⟨s, s1, s2, s3⟩ := wy_lex sg z (by rw [Nat.pow_succ] at h'; exact Nat.div_lt_of_lt_mul (by rw [Nat.mul_comm]; exact h'))
      refine ⟨s, by omega, fun r hr => ?_, ?_⟩
      · rw [wy_s (by omega), wy_s (by omega)]; exact s2 r hr
      · rw [wy_s s1, wy_s s1]; exact s3
    · refine ⟨sg, by omega, fun r hr => ?_, ?_⟩
      · rw [wy_s hr, wy_s hr, z]
      · rw [wy_z, wy_z]; rw [z] at e1; omega
    · exfalso
      have : nt * (w' / nt + 1) ≤ nt * (w / nt) := Nat.mul_le_mul_left _ z
      have := Nat.mod_lt w' hp
      rw [Nat.mul_add] at *
      omega
theorem wy_le {nt sg w w' : Nat} (h : w ≤ w') (h' : w' < nt ^ sg) : lexL sg (wyT nt sg w) (wyT nt sg w') := by
  rcases Nat.lt_or_ge w w' with z | z
  · exact Or.inr (wy_lex sg z h')
  · rw [show w = w' by omega]; exact Or.inl (fun _ _ => rfl)
theorem wy_bd {nt sg w : Nat} (hn : nt ≤ 10) (hs : sg ≤ 3) (hw : w < nt ^ sg) : w < 1000 ∧ (0 < sg → 0 < nt) := by
  have h1 : nt ^ sg ≤ 10 ^ 3 := Nat.le_trans (Nat.pow_le_pow_left hn sg) (Nat.pow_le_pow_right (by omega) hs)
  refine ⟨by omega, fun h => Nat.pos_of_ne_zero fun z => ?_⟩
  subst z
  rw [Nat.zero_pow h] at hw
  exact absurd hw (Nat.not_lt_zero _)
set_option maxRecDepth 100000 in
set_option maxHeartbeats 4000000 in
theorem k_X14_ways {G : xG} {h : xHp} {g : Nat → Int32} {w : Int64} {nw : Value} {ar : Nat → Nat → Int32} {tw : Nat → Int64} {kw : Nat → Int64} {rf : Nat → Option Nat} (M : MH h g w nw ar tw kw rf) {nt : Nat} (hn : nt ≤ 10) (h4 : g 4 = nI nt) {a : Nat} (ha : 227 ≤ a) {v : RV} (rv : rmV h a v) (hs3 : v.2.2.2.2 ≤ 3) : MX G mX14_ways 1 0 0 [.ref 205, .ref a] h (xAns (.int (nI (nt ^ v.2.2.2.2))) h) := by
  obtain ⟨so, kd, on, tz, lt, rc9, rI⟩ := id rv
  have hcs : v.2.2.2.2 = 0 ∨ v.2.2.2.2 = 1 ∨ v.2.2.2.2 = 2 ∨ v.2.2.2.2 = 3 := by omega
  rcases hcs with e | e | e | e
  · refine MX.of [(0, .ref 205), (1, .ref a)] (by decide) rfl (Nat.le_of_ble_eq_true rfl) rfl ?_
    refine x_iconst (v := 1) dX14_ways_0 (by decide) ?_
    refine x_istore_n [(0, .ref 205), (1, .ref a), (2, .int 1)] dX14_ways_1 (by decide) rfl rfl ?_
    refine x_iconst (v := 0) dX14_ways_2 (by decide) ?_
    refine x_istore_n [(0, .ref 205), (1, .ref a), (2, .int 1), (3, .int 0)] dX14_ways_3 (by decide) rfl rfl ?_
    refine x_iload_n dX14_ways_4 rfl ?_
    refine x_aload_n dX14_ways_5 rfl ?_
    refine x_get lf_X14_153 dX14_ways_6 rc9.1 rfl ?_
    refine x_top (y := 0) (by rw [e]; rfl) ?_
    refine x_icmp_ge 25 dX14_ways_9 (by decide) (fun _ => ?_) (fun c => absurd c (by decide))
    refine x_iload_n dX14_ways_25 rfl ?_
    refine x_iret dX14_ways_26 rfl rfl (Nat.le_refl _) (Nat.le_refl _) ⟨?_, rfl⟩
    rw [e]; rfl
  · refine MX.of [(0, .ref 205), (1, .ref a)] (by decide) rfl (Nat.le_of_ble_eq_true rfl) rfl ?_
    refine x_iconst (v := 1) dX14_ways_0 (by decide) ?_
    refine x_istore_n [(0, .ref 205), (1, .ref a), (2, .int 1)] dX14_ways_1 (by decide) rfl rfl ?_
    refine x_iconst (v := 0) dX14_ways_2 (by decide) ?_
    refine x_istore_n [(0, .ref 205), (1, .ref a), (2, .int 1), (3, .int 0)] dX14_ways_3 (by decide) rfl rfl ?_
    refine x_iload_n dX14_ways_4 rfl ?_
    refine x_aload_n dX14_ways_5 rfl ?_
    refine x_get lf_X14_153 dX14_ways_6 rc9.1 rfl ?_
    refine x_top (y := 1) (by rw [e]; rfl) ?_
    refine x_icmp_ge 25 dX14_ways_9 (by decide) (fun c => absurd c (by decide)) (fun _ => ?_)
    refine x_iload_n dX14_ways_12 rfl ?_
    refine x_aload_n dX14_ways_13 rfl ?_
    refine x_get lf_X14_96 dX14_ways_14 M.o rfl ?_
    refine x_top (y := nI nt) h4 ?_
    refine x_imul dX14_ways_17 ?_
    refine x_top (y := nI (1 * nt)) (pk_mul 1 nt) ?_
    refine x_istore_n [(0, .ref 205), (1, .ref a), (2, .int (nI (1 * nt))), (3, .int 0)] dX14_ways_18 (by decide) rfl rfl ?_
    refine x_iinc (v := 1) [(0, .ref 205), (1, .ref a), (2, .int (nI (1 * nt))), (3, .int 1)] dX14_ways_19 rfl (by decide) (by decide) rfl rfl ?_
    refine x_goto 4 dX14_ways_22 (by decide) ?_
    refine x_iload_n dX14_ways_4 rfl ?_
    refine x_aload_n dX14_ways_5 rfl ?_
    refine x_get lf_X14_153 dX14_ways_6 rc9.1 rfl ?_
    refine x_top (y := 1) (by rw [e]; rfl) ?_
    refine x_icmp_ge 25 dX14_ways_9 (by decide) (fun _ => ?_) (fun c => absurd c (by decide))
    refine x_iload_n dX14_ways_25 rfl ?_
    refine x_iret dX14_ways_26 rfl rfl (Nat.le_refl _) (Nat.le_refl _) ⟨?_, rfl⟩
    rw [e]
    congr 4 <;> simp [Nat.pow_succ]
  · refine MX.of [(0, .ref 205), (1, .ref a)] (by decide) rfl (Nat.le_of_ble_eq_true rfl) rfl ?_
    refine x_iconst (v := 1) dX14_ways_0 (by decide) ?_
    refine x_istore_n [(0, .ref 205), (1, .ref a), (2, .int 1)] dX14_ways_1 (by decide) rfl rfl ?_
    refine x_iconst (v := 0) dX14_ways_2 (by decide) ?_
    refine x_istore_n [(0, .ref 205), (1, .ref a), (2, .int 1), (3, .int 0)] dX14_ways_3 (by decide) rfl rfl ?_
    refine x_iload_n dX14_ways_4 rfl ?_
    refine x_aload_n dX14_ways_5 rfl ?_
    refine x_get lf_X14_153 dX14_ways_6 rc9.1 rfl ?_
    refine x_top (y := 2) (by rw [e]; rfl) ?_
    refine x_icmp_ge 25 dX14_ways_9 (by decide) (fun c => absurd c (by decide)) (fun _ => ?_)
    refine x_iload_n dX14_ways_12 rfl ?_
    refine x_aload_n dX14_ways_13 rfl ?_
    refine x_get lf_X14_96 dX14_ways_14 M.o rfl ?_
    refine x_top (y := nI nt) h4 ?_
    refine x_imul dX14_ways_17 ?_
    refine x_top (y := nI (1 * nt)) (pk_mul 1 nt) ?_
    refine x_istore_n [(0, .ref 205), (1, .ref a), (2, .int (nI (1 * nt))), (3, .int 0)] dX14_ways_18 (by decide) rfl rfl ?_
    refine x_iinc (v := 1) [(0, .ref 205), (1, .ref a), (2, .int (nI (1 * nt))), (3, .int 1)] dX14_ways_19 rfl (by decide) (by decide) rfl rfl ?_
    refine x_goto 4 dX14_ways_22 (by decide) ?_
    refine x_iload_n dX14_ways_4 rfl ?_
    refine x_aload_n dX14_ways_5 rfl ?_
    refine x_get lf_X14_153 dX14_ways_6 rc9.1 rfl ?_
    refine x_top (y := 2) (by rw [e]; rfl) ?_
    refine x_icmp_ge 25 dX14_ways_9 (by decide) (fun c => absurd c (by decide)) (fun _ => ?_)
    refine x_iload_n dX14_ways_12 rfl ?_
    refine x_aload_n dX14_ways_13 rfl ?_
    refine x_get lf_X14_96 dX14_ways_14 M.o rfl ?_
    refine x_top (y := nI nt) h4 ?_
    refine x_imul dX14_ways_17 ?_
    refine x_top (y := nI ((1 * nt) * nt)) (pk_mul (1 * nt) nt) ?_
    refine x_istore_n [(0, .ref 205), (1, .ref a), (2, .int (nI ((1 * nt) * nt))), (3, .int 1)] dX14_ways_18 (by decide) rfl rfl ?_
    refine x_iinc (v := 2) [(0, .ref 205), (1, .ref a), (2, .int (nI ((1 * nt) * nt))), (3, .int 2)] dX14_ways_19 rfl (by decide) (by decide) rfl rfl ?_
    refine x_goto 4 dX14_ways_22 (by decide) ?_
    refine x_iload_n dX14_ways_4 rfl ?_
    refine x_aload_n dX14_ways_5 rfl ?_
    refine x_get lf_X14_153 dX14_ways_6 rc9.1 rfl ?_
    refine x_top (y := 2) (by rw [e]; rfl) ?_
    refine x_icmp_ge 25 dX14_ways_9 (by decide) (fun _ => ?_) (fun c => absurd c (by decide))
    refine x_iload_n dX14_ways_25 rfl ?_
    refine x_iret dX14_ways_26 rfl rfl (Nat.le_refl _) (Nat.le_refl _) ⟨?_, rfl⟩
    rw [e]
    congr 4 <;> simp [Nat.pow_succ]
  · refine MX.of [(0, .ref 205), (1, .ref a)] (by decide) rfl (Nat.le_of_ble_eq_true rfl) rfl ?_
    refine x_iconst (v := 1) dX14_ways_0 (by decide) ?_
    refine x_istore_n [(0, .ref 205), (1, .ref a), (2, .int 1)] dX14_ways_1 (by decide) rfl rfl ?_
    refine x_iconst (v := 0) dX14_ways_2 (by decide) ?_
    refine x_istore_n [(0, .ref 205), (1, .ref a), (2, .int 1), (3, .int 0)] dX14_ways_3 (by decide) rfl rfl ?_
    refine x_iload_n dX14_ways_4 rfl ?_
    refine x_aload_n dX14_ways_5 rfl ?_
    refine x_get lf_X14_153 dX14_ways_6 rc9.1 rfl ?_
    refine x_top (y := 3) (by rw [e]; rfl) ?_
    refine x_icmp_ge 25 dX14_ways_9 (by decide) (fun c => absurd c (by decide)) (fun _ => ?_)
    refine x_iload_n dX14_ways_12 rfl ?_
    refine x_aload_n dX14_ways_13 rfl ?_
    refine x_get lf_X14_96 dX14_ways_14 M.o rfl ?_
    refine x_top (y := nI nt) h4 ?_
    refine x_imul dX14_ways_17 ?_
    refine x_top (y := nI (1 * nt)) (pk_mul 1 nt) ?_
    refine x_istore_n [(0, .ref 205), (1, .ref a), (2, .int (nI (1 * nt))), (3, .int 0)] dX14_ways_18 (by decide) rfl rfl ?_
    refine x_iinc (v := 1) [(0, .ref 205), (1, .ref a), (2, .int (nI (1 * nt))), (3, .int 1)] dX14_ways_19 rfl (by decide) (by decide) rfl rfl ?_
    refine x_goto 4 dX14_ways_22 (by decide) ?_
    refine x_iload_n dX14_ways_4 rfl ?_
    refine x_aload_n dX14_ways_5 rfl ?_
    refine x_get lf_X14_153 dX14_ways_6 rc9.1 rfl ?_
    refine x_top (y := 3) (by rw [e]; rfl) ?_
    refine x_icmp_ge 25 dX14_ways_9 (by decide) (fun c => absurd c (by decide)) (fun _ => ?_)
    refine x_iload_n dX14_ways_12 rfl ?_
    refine x_aload_n dX14_ways_13 rfl ?_
    refine x_get lf_X14_96 dX14_ways_14 M.o rfl ?_
    refine x_top (y := nI nt) h4 ?_
    refine x_imul dX14_ways_17 ?_
    refine x_top (y := nI ((1 * nt) * nt)) (pk_mul (1 * nt) nt) ?_
    refine x_istore_n [(0, .ref 205), (1, .ref a), (2, .int (nI ((1 * nt) * nt))), (3, .int 1)] dX14_ways_18 (by decide) rfl rfl ?_
    refine x_iinc (v := 2) [(0, .ref 205), (1, .ref a), (2, .int (nI ((1 * nt) * nt))), (3, .int 2)] dX14_ways_19 rfl (by decide) (by decide) rfl rfl ?_
    refine x_goto 4 dX14_ways_22 (by decide) ?_
    refine x_iload_n dX14_ways_4 rfl ?_
    refine x_aload_n dX14_ways_5 rfl ?_
    refine x_get lf_X14_153 dX14_ways_6 rc9.1 rfl ?_
    refine x_top (y := 3) (by rw [e]; rfl) ?_
    refine x_icmp_ge 25 dX14_ways_9 (by decide) (fun c => absurd c (by decide)) (fun _ => ?_)
    refine x_iload_n dX14_ways_12 rfl ?_
    refine x_aload_n dX14_ways_13 rfl ?_
    refine x_get lf_X14_96 dX14_ways_14 M.o rfl ?_
    refine x_top (y := nI nt) h4 ?_
    refine x_imul dX14_ways_17 ?_
    refine x_top (y := nI (((1 * nt) * nt) * nt)) (pk_mul ((1 * nt) * nt) nt) ?_
    refine x_istore_n [(0, .ref 205), (1, .ref a), (2, .int (nI (((1 * nt) * nt) * nt))), (3, .int 2)] dX14_ways_18 (by decide) rfl rfl ?_
    refine x_iinc (v := 3) [(0, .ref 205), (1, .ref a), (2, .int (nI (((1 * nt) * nt) * nt))), (3, .int 3)] dX14_ways_19 rfl (by decide) (by decide) rfl rfl ?_
    refine x_goto 4 dX14_ways_22 (by decide) ?_
    refine x_iload_n dX14_ways_4 rfl ?_
    refine x_aload_n dX14_ways_5 rfl ?_
    refine x_get lf_X14_153 dX14_ways_6 rc9.1 rfl ?_
    refine x_top (y := 3) (by rw [e]; rfl) ?_
    refine x_icmp_ge 25 dX14_ways_9 (by decide) (fun _ => ?_) (fun c => absurd c (by decide))
    refine x_iload_n dX14_ways_25 rfl ?_
    refine x_iret dX14_ways_26 rfl rfl (Nat.le_refl _) (Nat.le_refl _) ⟨?_, rfl⟩
    rw [e]
    congr 4 <;> simp [Nat.pow_succ]
set_option maxRecDepth 100000 in
set_option maxHeartbeats 4000000 in
theorem k_X14_gives {G : xG} {h : xHp} {g : Nat → Int32} {w : Int64} {nw : Value} {ar : Nat → Nat → Int32} {tw : Nat → Int64} {kw : Nat → Int64} {rf : Nat → Option Nat} (M : MH h g w nw ar tw kw rf) {nt : Nat} (hn : nt ≤ 10) (h4 : g 4 = nI nt) {a : Nat} (ha : 227 ≤ a) {v : RV} (rv : rmV h a v) (hs3 : v.2.2.2.2 ≤ 3) {x : Nat} (hw : x < nt ^ v.2.2.2.2) : MX G mX14_gives 1 0 0 [.ref 205, .ref a, .int (nI x)] h (fun o h' => o = .inl none ∧ yfr h h' ∧ ∃ ar', MH h' g w nw ar' tw kw rf ∧ (∀ c, c ≠ 220 → ar' c = ar c) ∧ gvT (ar' 220) nt v.2.2.2.2 (wyT nt v.2.2.2.2 x)) := by
  obtain ⟨so, kd, on, tz, lt, rc9, rI⟩ := id rv
  have hcs : v.2.2.2.2 = 0 ∨ v.2.2.2.2 = 1 ∨ v.2.2.2.2 = 2 ∨ v.2.2.2.2 = 3 := by omega
  rcases hcs with e | e | e | e
  all_goals have hx9 : x < 1000 ∧ (0 < v.2.2.2.2 → 0 < nt) := wy_bd hn hs3 hw
  all_goals have hq1 : x / nt ≤ x := Nat.div_le_self _ _
  all_goals have hq2 : x / nt / nt ≤ x / nt := Nat.div_le_self _ _
  · refine MX.of [(0, .ref 205), (1, .ref a), (2, .int (nI x))] (by decide) rfl (Nat.le_of_ble_eq_true rfl) rfl ?_
    refine x_iload_n dX14_gives_0 rfl ?_
    refine x_istore_n [(0, .ref 205), (1, .ref a), (2, .int (nI x)), (3, .int (nI x))] dX14_gives_1 (by decide) rfl rfl ?_
    refine x_aload_n dX14_gives_2 rfl ?_
    refine x_get lf_X14_153 dX14_gives_3 rc9.1 rfl ?_
    refine x_top (y := 0) (by rw [e]; rfl) ?_
    refine x_iconst (v := 1) dX14_gives_6 (by decide) ?_
    refine x_isub dX14_gives_7 ?_
    refine x_top (y := -1) (by decide) ?_
    refine x_istore [(0, .ref 205), (1, .ref a), (2, .int (nI x)), (3, .int (nI x)), (4, .int (-1))] dX14_gives_8 (by decide) rfl rfl ?_
    refine x_iload dX14_gives_10 rfl ?_
    refine x_if_lt 41 dX14_gives_12 (by decide) (fun _ => ?_) (fun c => absurd c (by decide))
    refine x_vret dX14_gives_41 rfl (Nat.le_refl _) (Nat.le_refl _) ⟨rfl, (yfr_rf _), _, M, fun c hc => ?_, by omega, fun s hs => ?_⟩
    · first | rfl | (repeat rw [apF_ne hc])
    · refine ⟨?_, wy_lt hw hs⟩
      rw [e] at hs ⊢
      omega
  · refine MX.of [(0, .ref 205), (1, .ref a), (2, .int (nI x))] (by decide) rfl (Nat.le_of_ble_eq_true rfl) rfl ?_
    refine x_iload_n dX14_gives_0 rfl ?_
    refine x_istore_n [(0, .ref 205), (1, .ref a), (2, .int (nI x)), (3, .int (nI x))] dX14_gives_1 (by decide) rfl rfl ?_
    refine x_aload_n dX14_gives_2 rfl ?_
    refine x_get lf_X14_153 dX14_gives_3 rc9.1 rfl ?_
    refine x_top (y := 1) (by rw [e]; rfl) ?_
    refine x_iconst (v := 1) dX14_gives_6 (by decide) ?_
    refine x_isub dX14_gives_7 ?_
    refine x_top (y := 0) (by decide) ?_
    refine x_istore [(0, .ref 205), (1, .ref a), (2, .int (nI x)), (3, .int (nI x)), (4, .int 0)] dX14_gives_8 (by decide) rfl rfl ?_
    refine x_iload dX14_gives_10 rfl ?_
    refine x_if_lt 41 dX14_gives_12 (by decide) (fun c => absurd c (by decide)) (fun _ => ?_)
    refine x_aload_n dX14_gives_15 rfl ?_
    refine x_get lf_X14_66 dX14_gives_16 M.o rfl ?_
    refine x_iload dX14_gives_19 rfl ?_
    refine x_iload_n dX14_gives_21 rfl ?_
    refine x_aload_n dX14_gives_22 rfl ?_
    refine x_get lf_X14_96 dX14_gives_23 M.o rfl ?_
    refine x_top (y := nI nt) h4 ?_
    refine x_irem dX14_gives_26 (by rw [show (0 : Int32) = nI 0 from rfl, nI_eq (by omega) (by omega)]; omega) ?_
    refine x_top (y := nI (x % nt)) (pk_rem (a := x) (d := nt) (by omega) (by omega) (by omega)) ?_
    refine x_iastN (j := 0) (M.a 220 0 3 rfl) rfl (by decide) (by decide) dX14_gives_27 ?_
    refine x_iload_n dX14_gives_28 rfl ?_
    refine x_aload_n dX14_gives_29 rfl ?_
    refine x_get lf_X14_96 dX14_gives_30 ((xup_ne (by omega)).trans M.o) rfl ?_
    refine x_top (y := nI nt) h4 ?_
    refine x_idiv dX14_gives_33 (by rw [show (0 : Int32) = nI 0 from rfl, nI_eq (by omega) (by omega)]; omega) ?_
    refine x_top (y := nI (x / nt)) (pk_div (a := x) (d := nt) (by omega) (by omega) (by omega)) ?_
    refine x_istore_n [(0, .ref 205), (1, .ref a), (2, .int (nI x)), (3, .int (nI (x / nt))), (4, .int 0)] dX14_gives_34 (by decide) rfl rfl ?_
    refine x_iinc (v := (-1)) [(0, .ref 205), (1, .ref a), (2, .int (nI x)), (3, .int (nI (x / nt))), (4, .int (-1))] dX14_gives_35 rfl (by decide) (by decide) rfl rfl ?_
    refine x_goto 10 dX14_gives_38 (by decide) ?_
    refine x_iload dX14_gives_10 rfl ?_
    refine x_if_lt 41 dX14_gives_12 (by decide) (fun _ => ?_) (fun c => absurd c (by decide))
    refine x_vret dX14_gives_41 rfl (Nat.le_refl _) (Nat.le_refl _) ⟨rfl, ((yfr_rf _).up (by decide)), _, (M.a9 (c := 220) rfl (upd (ar 220) 0 (nI (x % nt)))), fun c hc => ?_, by omega, fun s hs => ?_⟩
    · first | rfl | (repeat rw [apF_ne hc])
    · refine ⟨?_, wy_lt hw hs⟩
      rw [e] at hs ⊢
      rcases (by omega : s = 0) with rfl <;> simp [wyT, apF, upd, Nat.div_div_eq_div_mul, Nat.pow_succ]
  · refine MX.of [(0, .ref 205), (1, .ref a), (2, .int (nI x))] (by decide) rfl (Nat.le_of_ble_eq_true rfl) rfl ?_
    refine x_iload_n dX14_gives_0 rfl ?_
    refine x_istore_n [(0, .ref 205), (1, .ref a), (2, .int (nI x)), (3, .int (nI x))] dX14_gives_1 (by decide) rfl rfl ?_
    refine x_aload_n dX14_gives_2 rfl ?_
    refine x_get lf_X14_153 dX14_gives_3 rc9.1 rfl ?_
    refine x_top (y := 2) (by rw [e]; rfl) ?_
    refine x_iconst (v := 1) dX14_gives_6 (by decide) ?_
    refine x_isub dX14_gives_7 ?_
    refine x_top (y := 1) (by decide) ?_
    refine x_istore [(0, .ref 205), (1, .ref a), (2, .int (nI x)), (3, .int (nI x)), (4, .int 1)] dX14_gives_8 (by decide) rfl rfl ?_
    refine x_iload dX14_gives_10 rfl ?_
    refine x_if_lt 41 dX14_gives_12 (by decide) (fun c => absurd c (by decide)) (fun _ => ?_)
    refine x_aload_n dX14_gives_15 rfl ?_
    refine x_get lf_X14_66 dX14_gives_16 M.o rfl ?_
    refine x_iload dX14_gives_19 rfl ?_
    refine x_iload_n dX14_gives_21 rfl ?_
    refine x_aload_n dX14_gives_22 rfl ?_
    refine x_get lf_X14_96 dX14_gives_23 M.o rfl ?_
    refine x_top (y := nI nt) h4 ?_
    refine x_irem dX14_gives_26 (by rw [show (0 : Int32) = nI 0 from rfl, nI_eq (by omega) (by omega)]; omega) ?_
    refine x_top (y := nI (x % nt)) (pk_rem (a := x) (d := nt) (by omega) (by omega) (by omega)) ?_
    refine x_iastN (j := 1) (M.a 220 0 3 rfl) rfl (by decide) (by decide) dX14_gives_27 ?_
    refine x_iload_n dX14_gives_28 rfl ?_
    refine x_aload_n dX14_gives_29 rfl ?_
    refine x_get lf_X14_96 dX14_gives_30 ((xup_ne (by omega)).trans M.o) rfl ?_
    refine x_top (y := nI nt) h4 ?_
    refine x_idiv dX14_gives_33 (by rw [show (0 : Int32) = nI 0 from rfl, nI_eq (by omega) (by omega)]; omega) ?_
    refine x_top (y := nI (x / nt)) (pk_div (a := x) (d := nt) (by omega) (by omega) (by omega)) ?_
    refine x_istore_n [(0, .ref 205), (1, .ref a), (2, .int (nI x)), (3, .int (nI (x / nt))), (4, .int 1)] dX14_gives_34 (by decide) rfl rfl ?_
    refine x_iinc (v := 0) [(0, .ref 205), (1, .ref a), (2, .int (nI x)), (3, .int (nI (x / nt))), (4, .int 0)] dX14_gives_35 rfl (by decide) (by decide) rfl rfl ?_
    refine x_goto 10 dX14_gives_38 (by decide) ?_
    refine x_iload dX14_gives_10 rfl ?_
    refine x_if_lt 41 dX14_gives_12 (by decide) (fun c => absurd c (by decide)) (fun _ => ?_)
    refine x_aload_n dX14_gives_15 rfl ?_
    refine x_get lf_X14_66 dX14_gives_16 ((xup_ne (by omega)).trans M.o) rfl ?_
    refine x_iload dX14_gives_19 rfl ?_
    refine x_iload_n dX14_gives_21 rfl ?_
    refine x_aload_n dX14_gives_22 rfl ?_
    refine x_get lf_X14_96 dX14_gives_23 ((xup_ne (by omega)).trans M.o) rfl ?_
    refine x_top (y := nI nt) h4 ?_
    refine x_irem dX14_gives_26 (by rw [show (0 : Int32) = nI 0 from rfl, nI_eq (by omega) (by omega)]; omega) ?_
    refine x_top (y := nI ((x / nt) % nt)) (pk_rem (a := x / nt) (d := nt) (by omega) (by omega) (by omega)) ?_
    refine x_iastN (j := 0) (xup_self _ _ _) rfl (by decide) (by decide) dX14_gives_27 ?_
    refine x_iload_n dX14_gives_28 rfl ?_
    refine x_aload_n dX14_gives_29 rfl ?_
    refine x_get lf_X14_96 dX14_gives_30 ((xup_ne (by omega)).trans ((xup_ne (by omega)).trans M.o)) rfl ?_
    refine x_top (y := nI nt) h4 ?_
    refine x_idiv dX14_gives_33 (by rw [show (0 : Int32) = nI 0 from rfl, nI_eq (by omega) (by omega)]; omega) ?_
    refine x_top (y := nI ((x / nt) / nt)) (pk_div (a := x / nt) (d := nt) (by omega) (by omega) (by omega)) ?_
    refine x_istore_n [(0, .ref 205), (1, .ref a), (2, .int (nI x)), (3, .int (nI ((x / nt) / nt))), (4, .int 0)] dX14_gives_34 (by decide) rfl rfl ?_
    refine x_iinc (v := (-1)) [(0, .ref 205), (1, .ref a), (2, .int (nI x)), (3, .int (nI ((x / nt) / nt))), (4, .int (-1))] dX14_gives_35 rfl (by decide) (by decide) rfl rfl ?_
    refine x_goto 10 dX14_gives_38 (by decide) ?_
    refine x_iload dX14_gives_10 rfl ?_
    refine x_if_lt 41 dX14_gives_12 (by decide) (fun _ => ?_) (fun c => absurd c (by decide))
    refine x_vret dX14_gives_41 rfl (Nat.le_refl _) (Nat.le_refl _) ⟨rfl, (((yfr_rf _).up (by decide)).up (by decide)), _, ((M.a9 (c := 220) rfl (upd (ar 220) 1 (nI (x % nt)))).a9 (c := 220) rfl (upd (upd (ar 220) 1 (nI (x % nt))) 0 (nI ((x / nt) % nt)))), fun c hc => ?_, by omega, fun s hs => ?_⟩
    · first | rfl | (repeat rw [apF_ne hc])
    · refine ⟨?_, wy_lt hw hs⟩
      rw [e] at hs ⊢
      rcases (by omega : s = 0 ∨ s = 1) with rfl | rfl <;> simp [wyT, apF, upd, Nat.div_div_eq_div_mul, Nat.pow_succ]
  · refine MX.of [(0, .ref 205), (1, .ref a), (2, .int (nI x))] (by decide) rfl (Nat.le_of_ble_eq_true rfl) rfl ?_
    refine x_iload_n dX14_gives_0 rfl ?_
    refine x_istore_n [(0, .ref 205), (1, .ref a), (2, .int (nI x)), (3, .int (nI x))] dX14_gives_1 (by decide) rfl rfl ?_
    refine x_aload_n dX14_gives_2 rfl ?_
    refine x_get lf_X14_153 dX14_gives_3 rc9.1 rfl ?_
    refine x_top (y := 3) (by rw [e]; rfl) ?_
    refine x_iconst (v := 1) dX14_gives_6 (by decide) ?_
    refine x_isub dX14_gives_7 ?_
    refine x_top (y := 2) (by decide) ?_
    refine x_istore [(0, .ref 205), (1, .ref a), (2, .int (nI x)), (3, .int (nI x)), (4, .int 2)] dX14_gives_8 (by decide) rfl rfl ?_
    refine x_iload dX14_gives_10 rfl ?_
    refine x_if_lt 41 dX14_gives_12 (by decide) (fun c => absurd c (by decide)) (fun _ => ?_)
    refine x_aload_n dX14_gives_15 rfl ?_
    refine x_get lf_X14_66 dX14_gives_16 M.o rfl ?_
    refine x_iload dX14_gives_19 rfl ?_
    refine x_iload_n dX14_gives_21 rfl ?_
    refine x_aload_n dX14_gives_22 rfl ?_
    refine x_get lf_X14_96 dX14_gives_23 M.o rfl ?_
    refine x_top (y := nI nt) h4 ?_
    refine x_irem dX14_gives_26 (by rw [show (0 : Int32) = nI 0 from rfl, nI_eq (by omega) (by omega)]; omega) ?_
    refine x_top (y := nI (x % nt)) (pk_rem (a := x) (d := nt) (by omega) (by omega) (by omega)) ?_
    refine x_iastN (j := 2) (M.a 220 0 3 rfl) rfl (by decide) (by decide) dX14_gives_27 ?_
    refine x_iload_n dX14_gives_28 rfl ?_
    refine x_aload_n dX14_gives_29 rfl ?_
    refine x_get lf_X14_96 dX14_gives_30 ((xup_ne (by omega)).trans M.o) rfl ?_
    refine x_top (y := nI nt) h4 ?_
    refine x_idiv dX14_gives_33 (by rw [show (0 : Int32) = nI 0 from rfl, nI_eq (by omega) (by omega)]; omega) ?_
    refine x_top (y := nI (x / nt)) (pk_div (a := x) (d := nt) (by omega) (by omega) (by omega)) ?_
    refine x_istore_n [(0, .ref 205), (1, .ref a), (2, .int (nI x)), (3, .int (nI (x / nt))), (4, .int 2)] dX14_gives_34 (by decide) rfl rfl ?_
    refine x_iinc (v := 1) [(0, .ref 205), (1, .ref a), (2, .int (nI x)), (3, .int (nI (x / nt))), (4, .int 1)] dX14_gives_35 rfl (by decide) (by decide) rfl rfl ?_
    refine x_goto 10 dX14_gives_38 (by decide) ?_
    refine x_iload dX14_gives_10 rfl ?_
    refine x_if_lt 41 dX14_gives_12 (by decide) (fun c => absurd c (by decide)) (fun _ => ?_)
    refine x_aload_n dX14_gives_15 rfl ?_
    refine x_get lf_X14_66 dX14_gives_16 ((xup_ne (by omega)).trans M.o) rfl ?_
    refine x_iload dX14_gives_19 rfl ?_
    refine x_iload_n dX14_gives_21 rfl ?_
    refine x_aload_n dX14_gives_22 rfl ?_
    refine x_get lf_X14_96 dX14_gives_23 ((xup_ne (by omega)).trans M.o) rfl ?_
    refine x_top (y := nI nt) h4 ?_
    refine x_irem dX14_gives_26 (by rw [show (0 : Int32) = nI 0 from rfl, nI_eq (by omega) (by omega)]; omega) ?_
    refine x_top (y := nI ((x / nt) % nt)) (pk_rem (a := x / nt) (d := nt) (by omega) (by omega) (by omega)) ?_
    refine x_iastN (j := 1) (xup_self _ _ _) rfl (by decide) (by decide) dX14_gives_27 ?_
    refine x_iload_n dX14_gives_28 rfl ?_
    refine x_aload_n dX14_gives_29 rfl ?_
    refine x_get lf_X14_96 dX14_gives_30 ((xup_ne (by omega)).trans ((xup_ne (by omega)).trans M.o)) rfl ?_
    refine x_top (y := nI nt) h4 ?_
    refine x_idiv dX14_gives_33 (by rw [show (0 : Int32) = nI 0 from rfl, nI_eq (by omega) (by omega)]; omega) ?_
    refine x_top (y := nI ((x / nt) / nt)) (pk_div (a := x / nt) (d := nt) (by omega) (by omega) (by omega)) ?_
    refine x_istore_n [(0, .ref 205), (1, .ref a), (2, .int (nI x)), (3, .int (nI ((x / nt) / nt))), (4, .int 1)] dX14_gives_34 (by decide) rfl rfl ?_
    refine x_iinc (v := 0) [(0, .ref 205), (1, .ref a), (2, .int (nI x)), (3, .int (nI ((x / nt) / nt))), (4, .int 0)] dX14_gives_35 rfl (by decide) (by decide) rfl rfl ?_
    refine x_goto 10 dX14_gives_38 (by decide) ?_
    refine x_iload dX14_gives_10 rfl ?_
    refine x_if_lt 41 dX14_gives_12 (by decide) (fun c => absurd c (by decide)) (fun _ => ?_)
    refine x_aload_n dX14_gives_15 rfl ?_
    refine x_get lf_X14_66 dX14_gives_16 ((xup_ne (by omega)).trans ((xup_ne (by omega)).trans M.o)) rfl ?_
    refine x_iload dX14_gives_19 rfl ?_
    refine x_iload_n dX14_gives_21 rfl ?_
    refine x_aload_n dX14_gives_22 rfl ?_
    refine x_get lf_X14_96 dX14_gives_23 ((xup_ne (by omega)).trans ((xup_ne (by omega)).trans M.o)) rfl ?_
    refine x_top (y := nI nt) h4 ?_
    refine x_irem dX14_gives_26 (by rw [show (0 : Int32) = nI 0 from rfl, nI_eq (by omega) (by omega)]; omega) ?_
    refine x_top (y := nI (((x / nt) / nt) % nt)) (pk_rem (a := (x / nt) / nt) (d := nt) (by omega) (by omega) (by omega)) ?_
    refine x_iastN (j := 0) (xup_self _ _ _) rfl (by decide) (by decide) dX14_gives_27 ?_
    refine x_iload_n dX14_gives_28 rfl ?_
    refine x_aload_n dX14_gives_29 rfl ?_
    refine x_get lf_X14_96 dX14_gives_30 ((xup_ne (by omega)).trans ((xup_ne (by omega)).trans ((xup_ne (by omega)).trans M.o))) rfl ?_
    refine x_top (y := nI nt) h4 ?_
    refine x_idiv dX14_gives_33 (by rw [show (0 : Int32) = nI 0 from rfl, nI_eq (by omega) (by omega)]; omega) ?_
    refine x_top (y := nI (((x / nt) / nt) / nt)) (pk_div (a := (x / nt) / nt) (d := nt) (by omega) (by omega) (by omega)) ?_
    refine x_istore_n [(0, .ref 205), (1, .ref a), (2, .int (nI x)), (3, .int (nI (((x / nt) / nt) / nt))), (4, .int 0)] dX14_gives_34 (by decide) rfl rfl ?_
    refine x_iinc (v := (-1)) [(0, .ref 205), (1, .ref a), (2, .int (nI x)), (3, .int (nI (((x / nt) / nt) / nt))), (4, .int (-1))] dX14_gives_35 rfl (by decide) (by decide) rfl rfl ?_
    refine x_goto 10 dX14_gives_38 (by decide) ?_
    refine x_iload dX14_gives_10 rfl ?_
    refine x_if_lt 41 dX14_gives_12 (by decide) (fun _ => ?_) (fun c => absurd c (by decide))
    refine x_vret dX14_gives_41 rfl (Nat.le_refl _) (Nat.le_refl _) ⟨rfl, ((((yfr_rf _).up (by decide)).up (by decide)).up (by decide)), _, (((M.a9 (c := 220) rfl (upd (ar 220) 2 (nI (x % nt)))).a9 (c := 220) rfl (upd (upd (ar 220) 2 (nI (x % nt))) 1 (nI ((x / nt) % nt)))).a9 (c := 220) rfl (upd (upd (upd (ar 220) 2 (nI (x % nt))) 1 (nI ((x / nt) % nt))) 0 (nI (((x / nt) / nt) % nt)))), fun c hc => ?_, by omega, fun s hs => ?_⟩
    · first | rfl | (repeat rw [apF_ne hc])
    · refine ⟨?_, wy_lt hw hs⟩
      rw [e] at hs ⊢
      rcases (by omega : s = 0 ∨ s = 1 ∨ s = 2) with rfl | rfl | rfl <;> simp [wyT, apF, upd, Nat.div_div_eq_div_mul, Nat.pow_succ]
