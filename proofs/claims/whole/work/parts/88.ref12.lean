/-! the reference: layers -/
def ryI (V : Nat → RV) (n : Nat) (L : Nat → Nat) : Prop := ((∀ k, L k ≤ 10) ∧ ∀ k, 10 ≤ k → L k = 0) ∧ ∀ S, Sat V n S → (∀ k, k < 10 → S k ≤ 9) → ∀ k, k < 10 → L k ≤ S k
theorem ryI_le {V : Nat → RV} {n r j : Nat} {L : Nat → Nat} (hV : ∀ r, r < n → okK (V r)) (h : ryI V n L) (hr : r < n) (hj : j < (V r).2.2.1) (h2 : ¬ (V r).2.1 j 0 = 2) {S : Nat → Nat} (hS : Sat V n S) (hs : ∀ k, k < 10 → S k ≤ 9) : L (rvK (V r) j) + (if (V r).2.1 j 0 = 1 then 1 else 0) ≤ S (rvH (V r)) := by
  have h3 := lfor_le.mp (hS r hr) j hj h2
  have h4 := h.2 S hS hs _ ((hV r hr).2.2 j hj h2).2
  omega
theorem ryI_up {V : Nat → RV} {n r j : Nat} {L : Nat → Nat} (hV : ∀ r, r < n → okK (V r)) (h : ryI V n L) (hr : r < n) (hj : j < (V r).2.2.1) (h2 : ¬ (V r).2.1 j 0 = 2) {x : Nat} (hx : x = L (rvK (V r) j) + (if (V r).2.1 j 0 = 1 then 1 else 0)) (hx9 : x ≤ 10) : ryI V n (fun k => if k = rvH (V r) then x else L k) := by
  have hh := (hV r hr).2.1.2
  refine ⟨⟨fun k => ?_, fun k hk => ?_⟩, fun S hS hs k hk => ?_⟩
  · show (if k = rvH (V r) then x else L k) ≤ 10
    split
    · exact hx9
    · exact h.1.1 k
  · show (if k = rvH (V r) then x else L k) = 0
    rw [if_neg (by omega)]; exact h.1.2 k hk
  · show (if k = rvH (V r) then x else L k) ≤ S k
    split
    next e => rw [e, hx]; exact ryI_le hV h hr hj h2 hS hs
    next => exact h.2 S hS hs k hk
theorem ryI_no {V : Nat → RV} {n r j : Nat} {L : Nat → Nat} (hV : ∀ r, r < n → okK (V r)) (h : ryI V n L) (hr : r < n) (hj : j < (V r).2.2.1) (h2 : ¬ (V r).2.1 j 0 = 2) (hx9 : 10 < L (rvK (V r) j) + (if (V r).2.1 j 0 = 1 then 1 else 0)) : ¬ ∃ S, Sat V n S := by
  rintro ⟨S, hS⟩
  obtain ⟨S', hS', hs⟩ := sat_small hV hS
  have h1 := ryI_le hV h hr hj h2 hS' hs
  have h3 := hs _ (hV r hr).2.1.2
  omega
theorem ryI_ok {V : Nat → RV} {n : Nat} {L : Nat → Nat} {lf : Nat → Int32} (hV : ∀ r, r < n → okK (V r)) (h : ryI V n L) (hL : ∀ k, k < 10 → lf k = nI (L k)) (hs : Sat V n L) : lyOk V n lf L := by
  obtain ⟨S', hS', hs'⟩ := sat_small hV hs
  have h9 : ∀ k, L k ≤ 9 := fun k => by
    rcases Nat.lt_or_ge k 10 with z | z
    · exact Nat.le_trans (h.2 S' hS' hs' k z) (hs' k z)
    · rw [h.1.2 k z]; omega
  exact ⟨hL, h9, hs, lyInv_least hV ⟨h9, h.2⟩ hs⟩
def ryQ (V : Nat → RV) (n : Nat) (h : xHp) : Option Value ⊕ Nat → xHp → Prop := fun o h' => ∃ (b : Bool) (lf' : Nat → Int32), o = .inl (some (.int (bi b))) ∧ h' = xup h 211 (.inl (0, 10, .inl lf')) ∧ (b = true → ∃ L, lyOk V n lf' L) ∧ (b = false → ¬ ∃ S, Sat V n S)
set_option maxRecDepth 100000 in
set_option maxHeartbeats 4000000 in
theorem l_X14_lyT {G : xG} {h : xHp} {g : Nat → Int32} {w : Int64} {nw : Value} {ar : Nat → Nat → Int32} {tw : Nat → Int64} {kw : Nat → Int64} {rf : Nat → Option Nat} (M : MH h g w nw ar tw kw rf) {n : Nat} {V : Nat → RV} (hn : n ≤ 20) (hV : ∀ r, r < n → okK (V r)) {a r : Nat} {so kd on tz lt : Nat → Int32} (ha : 227 ≤ a) (hr : r < n) (rcr : rmC h a (nI (V r).2.2.1) (nI (V r).2.2.2.2) ((V r).1 4) so kd on tz lt) (rI : rmI (V r) (V r).2.2.1 so kd on tz) {Q0 : (Nat → Nat) → Prop} {s0 : Nat} (hcont : (∀ (lf : Nat → Int32) (L : Nat → Nat) (b : Bool), (∀ k, k < 10 → lf k = nI (L k)) → ryI V n L → (b = true → s0 + 1 ≤ fb_sm L 10) → (b = false → Q0 L ∧ lfor (V r) L (V r).2.2.1 ≤ L (rvH (V r))) → s0 ≤ fb_sm L 10 → Wx G mX14_layers (xRm 1 0 0) (xF G (ryQ V n h) 0 0) 0 0 156 [(0, .ref 205), (1, .int (nI n)), (2, .int (bi b)), (3, .int (nI r)), (4, .ref a), (5, .int (nI ((V r).2.2.1 + 1)))] [] (xup h 211 (.inl (0, 10, .inl lf))))) : ∀ (m j : Nat) (lf : Nat → Int32) (L : Nat → Nat) (b : Bool), j ≤ (V r).2.2.1 → (V r).2.2.1 + 1 ≤ j + m → (∀ k, k < 10 → lf k = nI (L k)) → ryI V n L → (b = true → s0 + 1 ≤ fb_sm L 10) → (b = false → Q0 L ∧ ∀ i, i < j → ¬ (V r).2.1 i 0 = 2 → L (rvK (V r) i) + (if (V r).2.1 i 0 = 1 then 1 else 0) ≤ L (rvH (V r))) → s0 ≤ fb_sm L 10 → Wx G mX14_layers (xRm 1 0 0) (xF G (ryQ V n h) 0 0) 0 0 47 [(0, .ref 205), (1, .int (nI n)), (2, .int (bi b)), (3, .int (nI r)), (4, .ref a), (5, .int (nI (j + 1)))] [] (xup h 211 (.inl (0, 10, .inl lf))) := by
  have h4 := (hV r hr).1
  intro m
  induction m with
  | zero => exact fun j lf L b h1 h2 => absurd h2 (by omega)
  | succ m ih =>
    intro j lf L b hk hk2 hL hI hb1 hb0 hs0
    refine x_iload dX14_layers_47 rfl ?_
    refine x_aload dX14_layers_49 rfl ?_
    refine x_get lf_X14_199 dX14_layers_51 ((xup_ne (by omega)).trans rcr.1) rfl ?_
    refine x_top (y := nI ((V r).2.2.1)) rfl ?_
    refine x_icmp_gt 156 dX14_layers_54 (by decide) (fun c_54 => ?_) (fun c_54 => ?_)
    · rw [nI_ltI (by omega) (by omega)] at c_54
      rw [show j = (V r).2.2.1 by omega]
      exact hcont lf L b hL hI hb1 (fun q => ⟨(hb0 q).1, lfor_le.mpr (fun i hi h2 => (hb0 q).2 i (by omega) h2)⟩) hs0
    · rw [nI_ltI (by omega) (by omega)] at c_54
      obtain ⟨d0, d1, d2, d3⟩ := rI (j + 1) (by omega)
      have d0 : so (j + 1) = (V r).2.1 j 0 := d0
      have d1 : kd (j + 1) = (V r).2.1 j 1 := d1
      refine x_aload dX14_layers_57 rfl ?_
      refine x_get lf_X14_169 dX14_layers_59 ((xup_ne (by omega)).trans rcr.1) rfl ?_
      refine x_iload dX14_layers_62 rfl ?_
      refine x_ialdN (j := j + 1) ((xup_ne (by omega)).trans rcr.2.1) rfl (by omega) (by decide) dX14_layers_64 ?_
      refine x_top (y := (V r).2.1 j 0) d0 ?_
      refine x_iconst (v := 2) dX14_layers_65 (by decide) ?_
      refine x_icmp_ne 72 dX14_layers_66 (by decide) (fun c_66 => ?_) (fun c_66 => ?_)
      · obtain ⟨hk1, hk2⟩ := (hV r hr).2.2 j (by omega) c_66
        obtain ⟨hh1, hh2⟩ := (hV r hr).2.1
        have hb2 := hI.1.1 (rvK (V r) j)
        have hb3 := hI.1.1 (rvH (V r))
        have z1 : kd 0 = nI (rvH (V r)) := (rI 0 (by omega)).2.1.trans hh1
        refine x_aload_n dX14_layers_72 rfl ?_
        refine x_get lf_X14_30 dX14_layers_73 ((xup_ne (by omega)).trans M.o) rfl ?_
        refine x_aload dX14_layers_76 rfl ?_
        refine x_get lf_X14_171 dX14_layers_78 ((xup_ne (by omega)).trans rcr.1) rfl ?_
        refine x_iload dX14_layers_81 rfl ?_
        refine x_ialdN (j := j + 1) ((xup_ne (by omega)).trans rcr.2.2.1) rfl (by omega) (by decide) dX14_layers_83 ?_
        refine x_top (y := nI (rvK (V r) j)) (d1.trans hk1) ?_
        refine x_ialdN (j := rvK (V r) j) (xup_self _ _ _) rfl (by omega) (by decide) dX14_layers_84 ?_
        refine x_top (y := nI (L (rvK (V r) j))) (hL _ hk2) ?_
        obtain ⟨XX, hXX⟩ : ∃ x, x = L (rvK (V r) j) + (if (V r).2.1 j 0 = 1 then 1 else 0) := ⟨_, rfl⟩
        have hXl : XX ≤ 11 := by rw [hXX]; split <;> omega
        refine x_aload dX14_layers_85 rfl ?_
        refine x_get lf_X14_169 dX14_layers_87 ((xup_ne (by omega)).trans rcr.1) rfl ?_
        refine x_iload dX14_layers_90 rfl ?_
        refine x_ialdN (j := j + 1) ((xup_ne (by omega)).trans rcr.2.1) rfl (by omega) (by decide) dX14_layers_92 ?_
        refine x_top (y := (V r).2.1 j 0) d0 ?_
        refine x_iconst (v := 1) dX14_layers_93 (by decide) ?_
        refine x_icmp_ne 101 dX14_layers_94 (by decide) (fun c_94 => ?_) (fun c_94 => ?_)
        · refine x_iconst (v := 0) dX14_layers_101 (by decide) ?_
          refine x_iadd dX14_layers_102 ?_
          refine x_top (y := nI XX) (by rw [hXX]; first | (rw [if_pos c_94]; first | rfl | exact nI_add _ 1) | (rw [if_neg c_94]; first | rfl | exact nI_add _ 0)) ?_
          refine x_istore [(0, .ref 205), (1, .int (nI n)), (2, .int (bi b)), (3, .int (nI r)), (4, .ref a), (5, .int (nI (j + 1))), (6, .int (nI XX))] dX14_layers_103 (by decide) rfl rfl ?_
          refine x_aload_n dX14_layers_105 rfl ?_
          refine x_get lf_X14_30 dX14_layers_106 ((xup_ne (by omega)).trans M.o) rfl ?_
          refine x_aload dX14_layers_109 rfl ?_
          refine x_get lf_X14_171 dX14_layers_111 ((xup_ne (by omega)).trans rcr.1) rfl ?_
          refine x_iconst (v := 0) dX14_layers_114 (by decide) ?_
          refine x_ialdN (j := 0) ((xup_ne (by omega)).trans rcr.2.2.1) rfl (by decide) (by decide) dX14_layers_115 ?_
          refine x_top (y := nI (rvH (V r))) z1 ?_
          refine x_ialdN (j := rvH (V r)) (xup_self _ _ _) rfl (by omega) (by decide) dX14_layers_116 ?_
          refine x_top (y := nI (L (rvH (V r)))) (hL _ hh2) ?_
          refine x_iload dX14_layers_117 rfl ?_
          refine x_icmp_lt 125 dX14_layers_119 (by decide) (fun c_119 => ?_) (fun c_119 => ?_)
          · rw [nI_ltI (by omega) (by omega)] at c_119
            refine x_aload_n dX14_layers_125 rfl ?_
            refine x_get lf_X14_30 dX14_layers_126 ((xup_ne (by omega)).trans M.o) rfl ?_
            refine x_aload dX14_layers_129 rfl ?_
            refine x_get lf_X14_171 dX14_layers_131 ((xup_ne (by omega)).trans rcr.1) rfl ?_
            refine x_iconst (v := 0) dX14_layers_134 (by decide) ?_
            refine x_ialdN (j := 0) ((xup_ne (by omega)).trans rcr.2.2.1) rfl (by decide) (by decide) dX14_layers_135 ?_
            refine x_top (y := nI (rvH (V r))) z1 ?_
            refine x_iload dX14_layers_136 rfl ?_
            refine x_iastN (j := rvH (V r)) (xup_self _ _ _) rfl (by omega) (by decide) dX14_layers_138 ?_
            refine x_iconst (v := 1) dX14_layers_139 (by decide) ?_
            refine x_istore_n [(0, .ref 205), (1, .int (nI n)), (2, .int 1), (3, .int (nI r)), (4, .ref a), (5, .int (nI (j + 1))), (6, .int (nI XX))] dX14_layers_140 (by decide) rfl rfl ?_
            refine x_iload dX14_layers_141 rfl ?_
            refine x_bipush (v := 10) dX14_layers_143 (by decide) ?_
            refine x_icmp_le 150 dX14_layers_145 (by decide) (fun c_145 => ?_) (fun c_145 => ?_)
            · rw [show (10 : Int32) = nI 10 from rfl, nI_leI (by omega) (by omega)] at c_145
              refine x_iinc (v := nI ((j + 1) + 1)) [(0, .ref 205), (1, .int (nI n)), (2, .int 1), (3, .int (nI r)), (4, .ref a), (5, .int (nI ((j + 1) + 1))), (6, .int (nI XX))] dX14_layers_150 rfl (nI_add (j + 1) 1) (by decide) rfl rfl ?_
              refine x_goto 47 dX14_layers_153 (by decide) ?_
              refine x_heap (xup_up _ _ _ _) ?_
              exact x_ls _ [0, 1, 2, 3, 4, 5] rfl (ih (j + 1) _ _ true (by omega) (by omega) (upd_L hL) (ryI_up hV hI hr (by omega) c_66 hXX (by omega)) (fun _ => Nat.le_trans (Nat.succ_le_succ hs0) (sum_up hh2 (by omega))) (fun q => by cases q) (Nat.le_trans hs0 (Nat.le_of_succ_le (sum_up hh2 (by omega)))))
            · rw [show (10 : Int32) = nI 10 from rfl, nI_leI (by omega) (by omega)] at c_145
              refine x_iconst (v := 0) dX14_layers_148 (by decide) ?_
              exact x_iret dX14_layers_149 rfl rfl (Nat.le_refl _) (Nat.le_refl _) ⟨false, _, rfl, xup_up _ _ _ _, fun q => (by cases q), fun _ => ryI_no hV hI hr (by omega) c_66 (by omega)⟩
          · rw [nI_ltI (by omega) (by omega)] at c_119
            refine x_goto 150 dX14_layers_122 (by decide) ?_
            refine x_iinc (v := nI ((j + 1) + 1)) [(0, .ref 205), (1, .int (nI n)), (2, .int (bi b)), (3, .int (nI r)), (4, .ref a), (5, .int (nI ((j + 1) + 1))), (6, .int (nI XX))] dX14_layers_150 rfl (nI_add (j + 1) 1) (by decide) rfl rfl ?_
            refine x_goto 47 dX14_layers_153 (by decide) ?_
            exact x_ls _ [0, 1, 2, 3, 4, 5] rfl (ih (j + 1) lf L b (by omega) (by omega) hL hI hb1 (fun q => ⟨(hb0 q).1, fun i hi h2 => by rcases Nat.lt_or_ge i j with z | z; exact (hb0 q).2 i z h2; rw [show i = j by omega, ← hXX]; omega⟩) hs0)
        · refine x_iconst (v := 1) dX14_layers_97 (by decide) ?_
          refine x_goto 102 dX14_layers_98 (by decide) ?_
          refine x_iadd dX14_layers_102 ?_
          refine x_top (y := nI XX) (by rw [hXX]; first | (rw [if_pos c_94]; first | rfl | exact nI_add _ 1) | (rw [if_neg c_94]; first | rfl | exact nI_add _ 0)) ?_
          refine x_istore [(0, .ref 205), (1, .int (nI n)), (2, .int (bi b)), (3, .int (nI r)), (4, .ref a), (5, .int (nI (j + 1))), (6, .int (nI XX))] dX14_layers_103 (by decide) rfl rfl ?_
          refine x_aload_n dX14_layers_105 rfl ?_
          refine x_get lf_X14_30 dX14_layers_106 ((xup_ne (by omega)).trans M.o) rfl ?_
          refine x_aload dX14_layers_109 rfl ?_
          refine x_get lf_X14_171 dX14_layers_111 ((xup_ne (by omega)).trans rcr.1) rfl ?_
          refine x_iconst (v := 0) dX14_layers_114 (by decide) ?_
          refine x_ialdN (j := 0) ((xup_ne (by omega)).trans rcr.2.2.1) rfl (by decide) (by decide) dX14_layers_115 ?_
          refine x_top (y := nI (rvH (V r))) z1 ?_
          refine x_ialdN (j := rvH (V r)) (xup_self _ _ _) rfl (by omega) (by decide) dX14_layers_116 ?_
          refine x_top (y := nI (L (rvH (V r)))) (hL _ hh2) ?_
          refine x_iload dX14_layers_117 rfl ?_
          refine x_icmp_lt 125 dX14_layers_119 (by decide) (fun c_119 => ?_) (fun c_119 => ?_)
          · rw [nI_ltI (by omega) (by omega)] at c_119
            refine x_aload_n dX14_layers_125 rfl ?_
            refine x_get lf_X14_30 dX14_layers_126 ((xup_ne (by omega)).trans M.o) rfl ?_
            refine x_aload dX14_layers_129 rfl ?_
            refine x_get lf_X14_171 dX14_layers_131 ((xup_ne (by omega)).trans rcr.1) rfl ?_
            refine x_iconst (v := 0) dX14_layers_134 (by decide) ?_
            refine x_ialdN (j := 0) ((xup_ne (by omega)).trans rcr.2.2.1) rfl (by decide) (by decide) dX14_layers_135 ?_
            refine x_top (y := nI (rvH (V r))) z1 ?_
            refine x_iload dX14_layers_136 rfl ?_
            refine x_iastN (j := rvH (V r)) (xup_self _ _ _) rfl (by omega) (by decide) dX14_layers_138 ?_
            refine x_iconst (v := 1) dX14_layers_139 (by decide) ?_
            refine x_istore_n [(0, .ref 205), (1, .int (nI n)), (2, .int 1), (3, .int (nI r)), (4, .ref a), (5, .int (nI (j + 1))), (6, .int (nI XX))] dX14_layers_140 (by decide) rfl rfl ?_
            refine x_iload dX14_layers_141 rfl ?_
            refine x_bipush (v := 10) dX14_layers_143 (by decide) ?_
            refine x_icmp_le 150 dX14_layers_145 (by decide) (fun c_145 => ?_) (fun c_145 => ?_)
            · rw [show (10 : Int32) = nI 10 from rfl, nI_leI (by omega) (by omega)] at c_145
              refine x_iinc (v := nI ((j + 1) + 1)) [(0, .ref 205), (1, .int (nI n)), (2, .int 1), (3, .int (nI r)), (4, .ref a), (5, .int (nI ((j + 1) + 1))), (6, .int (nI XX))] dX14_layers_150 rfl (nI_add (j + 1) 1) (by decide) rfl rfl ?_
              refine x_goto 47 dX14_layers_153 (by decide) ?_
              refine x_heap (xup_up _ _ _ _) ?_
              exact x_ls _ [0, 1, 2, 3, 4, 5] rfl (ih (j + 1) _ _ true (by omega) (by omega) (upd_L hL) (ryI_up hV hI hr (by omega) c_66 hXX (by omega)) (fun _ => Nat.le_trans (Nat.succ_le_succ hs0) (sum_up hh2 (by omega))) (fun q => by cases q) (Nat.le_trans hs0 (Nat.le_of_succ_le (sum_up hh2 (by omega)))))
            · rw [show (10 : Int32) = nI 10 from rfl, nI_leI (by omega) (by omega)] at c_145
              refine x_iconst (v := 0) dX14_layers_148 (by decide) ?_
              exact x_iret dX14_layers_149 rfl rfl (Nat.le_refl _) (Nat.le_refl _) ⟨false, _, rfl, xup_up _ _ _ _, fun q => (by cases q), fun _ => ryI_no hV hI hr (by omega) c_66 (by omega)⟩
          · rw [nI_ltI (by omega) (by omega)] at c_119
            refine x_goto 150 dX14_layers_122 (by decide) ?_
            refine x_iinc (v := nI ((j + 1) + 1)) [(0, .ref 205), (1, .int (nI n)), (2, .int (bi b)), (3, .int (nI r)), (4, .ref a), (5, .int (nI ((j + 1) + 1))), (6, .int (nI XX))] dX14_layers_150 rfl (nI_add (j + 1) 1) (by decide) rfl rfl ?_
            refine x_goto 47 dX14_layers_153 (by decide) ?_
            exact x_ls _ [0, 1, 2, 3, 4, 5] rfl (ih (j + 1) lf L b (by omega) (by omega) hL hI hb1 (fun q => ⟨(hb0 q).1, fun i hi h2 => by rcases Nat.lt_or_ge i j with z | z; exact (hb0 q).2 i z h2; rw [show i = j by omega, ← hXX]; omega⟩) hs0)
      · refine x_goto 150 dX14_layers_69 (by decide) ?_
        refine x_iinc (v := nI ((j + 1) + 1)) [(0, .ref 205), (1, .int (nI n)), (2, .int (bi b)), (3, .int (nI r)), (4, .ref a), (5, .int (nI ((j + 1) + 1)))] dX14_layers_150 rfl (nI_add (j + 1) 1) (by decide) rfl rfl ?_
        refine x_goto 47 dX14_layers_153 (by decide) ?_
        exact ih (j + 1) lf L b (by omega) (by omega) hL hI hb1 (fun q => ⟨(hb0 q).1, fun i hi h2 => by rcases Nat.lt_or_ge i j with z | z; exact (hb0 q).2 i z h2; exact absurd (show (V r).2.1 i 0 = 2 by rw [show i = j by omega]; exact c_66) h2⟩) hs0
set_option maxRecDepth 100000 in
set_option maxHeartbeats 4000000 in
theorem l_X14_lyR {G : xG} {h : xHp} {g : Nat → Int32} {w : Int64} {nw : Value} {ar : Nat → Nat → Int32} {tw : Nat → Int64} {kw : Nat → Int64} {rf : Nat → Option Nat} (M : MH h g w nw ar tw kw rf) {n : Nat} {V : Nat → RV} (hn : n ≤ 20) (hV : ∀ r, r < n → okK (V r)) (hT : rmT h rf n V) {s0 : Nat} (hcont : (∀ (lf : Nat → Int32) (L : Nat → Nat) (b : Bool), (∀ k, k < 10 → lf k = nI (L k)) → ryI V n L → (b = true → s0 + 1 ≤ fb_sm L 10) → (b = false → Sat V n L) → s0 ≤ fb_sm L 10 → Wx G mX14_layers (xRm 1 0 0) (xF G (ryQ V n h) 0 0) 0 0 162 [(0, .ref 205), (1, .int (nI n)), (2, .int (bi b)), (3, .int (nI n))] [] (xup h 211 (.inl (0, 10, .inl lf))))) : ∀ (m r : Nat) (lf : Nat → Int32) (L : Nat → Nat) (b : Bool), r ≤ n → n + 1 ≤ r + m → (∀ k, k < 10 → lf k = nI (L k)) → ryI V n L → (b = true → s0 + 1 ≤ fb_sm L 10) → (b = false → ∀ r9, r9 < r → lfor (V r9) L (V r9).2.2.1 ≤ L (rvH (V r9))) → s0 ≤ fb_sm L 10 → Wx G mX14_layers (xRm 1 0 0) (xF G (ryQ V n h) 0 0) 0 0 31 [(0, .ref 205), (1, .int (nI n)), (2, .int (bi b)), (3, .int (nI r))] [] (xup h 211 (.inl (0, 10, .inl lf))) := by
  intro m
  induction m with
  | zero => exact fun r lf L b h1 h2 => absurd h2 (by omega)
  | succ m ih =>
    intro r lf L b hk hk2 hL hI hb1 hb0 hs0
    refine x_iload_n dX14_layers_31 rfl ?_
    refine x_iload_n dX14_layers_32 rfl ?_
    refine x_icmp_ge 162 dX14_layers_33 (by decide) (fun c_33 => ?_) (fun c_33 => ?_)
    · rw [nI_leI (by omega) (by omega)] at c_33
      rw [show r = n by omega]
      exact hcont lf L b hL hI hb1 (fun q r9 hr9 => hb0 q r9 (by omega)) hs0
    · rw [nI_leI (by omega) (by omega)] at c_33
      obtain ⟨a, hra, ha1, ha2, so, kd, on, tz, lt, rcr, rI⟩ := hT r (by omega)
      refine x_aload_n dX14_layers_36 rfl ?_
      refine x_get lf_X14_42 dX14_layers_37 ((xup_ne (by omega)).trans M.o) rfl ?_
      refine x_iload_n dX14_layers_40 rfl ?_
      refine x_aaldN (b := a) (j := r) ((xup_ne (by omega)).trans M.r) rfl rfl (by omega) (by decide) hra dX14_layers_41 ?_
      refine x_astore [(0, .ref 205), (1, .int (nI n)), (2, .int (bi b)), (3, .int (nI r)), (4, .ref a)] dX14_layers_42 (by decide) rfl rfl ?_
      refine x_iconst (v := 1) dX14_layers_44 (by decide) ?_
      refine x_istore [(0, .ref 205), (1, .int (nI n)), (2, .int (bi b)), (3, .int (nI r)), (4, .ref a), (5, .int 1)] dX14_layers_45 (by decide) rfl rfl ?_
      refine l_X14_lyT M hn hV ha1 (by omega) rcr rI (Q0 := fun L => ∀ r9, r9 < r → lfor (V r9) L (V r9).2.2.1 ≤ L (rvH (V r9))) (s0 := s0) (fun lf L b hL hI hb1 hb0 hs0 => ?_) ((V r).2.2.1 + 1) 0 lf L b (Nat.zero_le _) (by omega) hL hI hb1 (fun q => ⟨hb0 q, fun i hi => absurd hi (Nat.not_lt_zero _)⟩) hs0
      refine x_iinc (v := nI (r + 1)) [(0, .ref 205), (1, .int (nI n)), (2, .int (bi b)), (3, .int (nI (r + 1))), (4, .ref a), (5, .int (nI ((V r).2.2.1 + 1)))] dX14_layers_156 rfl (nI_add r 1) (by decide) rfl rfl ?_
      refine x_goto 31 dX14_layers_159 (by decide) ?_
      exact x_ls _ [0, 1, 2, 3] rfl (ih (r + 1) lf L b (by omega) (by omega) hL hI hb1 (fun q => lt_s (hb0 q).1 (hb0 q).2) hs0)
set_option maxRecDepth 100000 in
set_option maxHeartbeats 4000000 in
theorem l_X14_lyO {G : xG} {h : xHp} {g : Nat → Int32} {w : Int64} {nw : Value} {ar : Nat → Nat → Int32} {tw : Nat → Int64} {kw : Nat → Int64} {rf : Nat → Option Nat} (M : MH h g w nw ar tw kw rf) {n : Nat} {V : Nat → RV} (hn : n ≤ 20) (hV : ∀ r, r < n → okK (V r)) (hT : rmT h rf n V) : ∀ (m j : Nat) (lf : Nat → Int32) (L : Nat → Nat) (b : Bool), j ≤ 102 → 103 ≤ j + m → (∀ k, k < 10 → lf k = nI (L k)) → ryI V n L → (b = true → j ≤ fb_sm L 10) → (b = false → Sat V n L) → Wx G mX14_layers (xRm 1 0 0) (xF G (ryQ V n h) 0 0) 0 0 23 [(0, .ref 205), (1, .int (nI n)), (2, .int (bi b))] [] (xup h 211 (.inl (0, 10, .inl lf))) := by
  intro m
  induction m with
  | zero => exact fun j lf L b h1 h2 => absurd h2 (by omega)
  | succ m ih =>
    intro j lf L b hk hk2 hL hI hj hb0
    refine x_iload_n dX14_layers_23 rfl ?_
    refine x_if_eq 165 dX14_layers_24 (by decide) (fun c_24 => ?_) (fun c_24 => ?_)
    · have c_24 := bi_f c_24
      refine x_iconst (v := 1) dX14_layers_165 (by decide) ?_
      exact x_iret dX14_layers_166 rfl rfl (Nat.le_refl _) (Nat.le_refl _) ⟨true, lf, rfl, rfl, fun _ => ⟨L, ryI_ok hV hI hL (hb0 (by first | exact c_24 | exact bi_f c_24))⟩, fun q => (by cases q)⟩
    · have c_24 := bi_t c_24
      refine x_iconst (v := 0) dX14_layers_27 (by decide) ?_
      refine x_istore_n [(0, .ref 205), (1, .int (nI n)), (2, .int 0)] dX14_layers_28 (by decide) rfl rfl ?_
      refine x_iconst (v := 0) dX14_layers_29 (by decide) ?_
      refine x_istore_n [(0, .ref 205), (1, .int (nI n)), (2, .int 0), (3, .int 0)] dX14_layers_30 (by decide) rfl rfl ?_
      have hj9 := hj (by first | exact c_24 | exact bi_t c_24)
      have hbd := fb_sm_bound (f := L) (c := 10) (n := 10) (fun k _ => hI.1.1 k)
      refine l_X14_lyR M hn hV hT (s0 := fb_sm L 10) (fun lf L b hL hI hb1 hb0 hs0 => ?_) (n + 1) 0 lf L false (by omega) (by omega) hL hI (fun q => by cases q) (fun _ r hr => absurd hr (by omega)) (Nat.le_refl _)
      refine x_goto 23 dX14_layers_162 (by decide) ?_
      exact x_ls _ [0, 1, 2] rfl (ih (j + 1) lf L b (by omega) (by omega) hL hI (fun q => by have := hb1 q; omega) hb0)
set_option maxRecDepth 100000 in
set_option maxHeartbeats 4000000 in
theorem l_X14_ly0 {G : xG} {h : xHp} {g : Nat → Int32} {w : Int64} {nw : Value} {ar : Nat → Nat → Int32} {tw : Nat → Int64} {kw : Nat → Int64} {rf : Nat → Option Nat} (M : MH h g w nw ar tw kw rf) {n : Nat} {V : Nat → RV} (hn : n ≤ 20) (hV : ∀ r, r < n → okK (V r)) (hT : rmT h rf n V) : ∀ (m j : Nat) (lf : Nat → Int32), j ≤ 10 → 11 ≤ j + m → (∀ q, q < j → lf q = 0) → Wx G mX14_layers (xRm 1 0 0) (xF G (ryQ V n h) 0 0) 0 0 2 [(0, .ref 205), (1, .int (nI n)), (2, .int (nI j))] [] (xup h 211 (.inl (0, 10, .inl lf))) := by
  intro m
  induction m with
  | zero => exact fun j lf h1 h2 => absurd h2 (by omega)
  | succ m ih =>
    intro j lf hk hk2 hz
    refine x_iload_n dX14_layers_2 rfl ?_
    refine x_bipush (v := 10) dX14_layers_3 (by decide) ?_
    refine x_icmp_ge 21 dX14_layers_5 (by decide) (fun c_5 => ?_) (fun c_5 => ?_)
    · rw [show (10 : Int32) = nI 10 from rfl, nI_leI (by omega) (by omega)] at c_5
      refine x_iconst (v := 1) dX14_layers_21 (by decide) ?_
      refine x_istore_n [(0, .ref 205), (1, .int (nI n)), (2, .int 1)] dX14_layers_22 (by decide) rfl rfl ?_
      exact x_ls _ [0, 1, 2] rfl (l_X14_lyO M hn hV hT 103 0 lf (fun _ => 0) true (by omega) (by omega) (fun k hk => by rw [hz k (by omega)]; rfl) ⟨⟨fun _ => Nat.zero_le _, fun _ _ => rfl⟩, fun S _ _ k _ => Nat.zero_le _⟩ (fun _ => Nat.zero_le _) (fun q => by cases q))
    · rw [show (10 : Int32) = nI 10 from rfl, nI_leI (by omega) (by omega)] at c_5
      refine x_aload_n dX14_layers_8 rfl ?_
      refine x_get lf_X14_30 dX14_layers_9 ((xup_ne (by omega)).trans M.o) rfl ?_
      refine x_iload_n dX14_layers_12 rfl ?_
      refine x_iconst (v := 0) dX14_layers_13 (by decide) ?_
      refine x_iastN (j := j) (xup_self _ _ _) rfl (by omega) (by decide) dX14_layers_14 ?_
      refine x_iinc (v := nI (j + 1)) [(0, .ref 205), (1, .int (nI n)), (2, .int (nI (j + 1)))] dX14_layers_15 rfl (nI_add j 1) (by decide) rfl rfl ?_
      refine x_goto 2 dX14_layers_18 (by decide) ?_
      refine x_heap (xup_up _ _ _ _) ?_
      exact ih (j + 1) _ (by omega) (by omega) (fun q hq => by by_cases e : q = j; (rw [e]; exact upd_at9); rw [upd_nq e]; exact hz q (by omega))
set_option maxRecDepth 100000 in
set_option maxHeartbeats 4000000 in
theorem k_X14_layers {G : xG} {h : xHp} {g : Nat → Int32} {w : Int64} {nw : Value} {ar : Nat → Nat → Int32} {tw : Nat → Int64} {kw : Nat → Int64} {rf : Nat → Option Nat} (M : MH h g w nw ar tw kw rf) {n : Nat} {V : Nat → RV} (hn : n ≤ 20) (hV : ∀ r, r < n → okK (V r)) (hT : rmT h rf n V) : MX G mX14_layers 1 0 0 [.ref 205, .int (nI n)] h (ryQ V n h) := by
  refine MX.of [(0, .ref 205), (1, .int (nI n))] (by decide) rfl (Nat.le_of_ble_eq_true rfl) rfl ?_
  refine x_iconst (v := 0) dX14_layers_0 (by decide) ?_
  refine x_istore_n [(0, .ref 205), (1, .int (nI n)), (2, .int 0)] dX14_layers_1 (by decide) rfl rfl ?_
  refine x_heap (xup_id (M.a 211 0 10 rfl)).symm ?_
  exact l_X14_ly0 M hn hV hT 11 0 (ar 211) (by omega) (by omega) (fun q hq => absurd hq (by omega))
