/-! RuleCourt$Tokens -/
def tyB (c : Nat) : Nat := if 65 ≤ c ∧ c ≤ 72 then 3 else if c = 40 ∨ c = 41 ∨ c = 44 ∨ c = 46 ∨ c = 58 ∨ c = 35 then c else 1
theorem tyB_lt {c : Nat} (h : c < 256) : tyB c < 256 := by
  unfold tyB
  split
  · omega
  · split <;> omega
set_option maxRecDepth 100000 in
set_option maxHeartbeats 4000000 in
theorem k_X10_typeOf {G : xG} {h : xHp} {c : Nat} (hc : c < 256) : MX G mX10_typeOf 1 0 0 [.int (nI c)] h (xAns (.int (nI (tyB c))) h) := by
  refine MX.of [(0, .int (nI c))] (by decide) rfl (Nat.le_of_ble_eq_true rfl) rfl ?_
  refine x_iload_n dX10_typeOf_0 rfl ?_
  refine x_bipush (v := 65) dX10_typeOf_1 (by decide) ?_
  refine x_icmp_lt 14 dX10_typeOf_3 (by decide) (fun c_3 => ?_) (fun c_3 => ?_)
  · rw [show (65 : Int32) = nI 65 from rfl, nI_ltI (by omega) (by omega)] at c_3
    refine x_iload_n dX10_typeOf_14 rfl ?_
    refine x_bipush (v := 40) dX10_typeOf_15 (by decide) ?_
    refine x_icmp_eq 50 dX10_typeOf_17 (by decide) (fun c_17 => ?_) (fun c_17 => ?_)
    · rw [show (40 : Int32) = nI 40 from rfl, nI_eq (by omega) (by omega)] at c_17
      refine x_iconst (v := 1) dX10_typeOf_50 (by decide) ?_
      refine x_goto 55 dX10_typeOf_51 (by decide) ?_
      refine x_istore_n [(0, .int (nI c)), (1, .int 1)] dX10_typeOf_55 (by decide) rfl rfl ?_
      refine x_iload_n dX10_typeOf_56 rfl ?_
      refine x_if_eq 64 dX10_typeOf_57 (by decide) (fun c => absurd c (by decide)) (fun _ => ?_)
      refine x_iload_n dX10_typeOf_60 rfl ?_
      refine x_goto 65 dX10_typeOf_61 (by decide) ?_
      exact x_iret dX10_typeOf_65 rfl rfl (Nat.le_refl _) (Nat.le_refl _) ⟨by unfold tyB; first | rw [if_pos (by omega)]; rfl | rw [if_neg (by omega), if_pos (by omega)] | rw [if_neg (by omega), if_neg (by omega)]; rfl, rfl⟩
    · rw [show (40 : Int32) = nI 40 from rfl, nI_eq (by omega) (by omega)] at c_17
      refine x_iload_n dX10_typeOf_20 rfl ?_
      refine x_bipush (v := 41) dX10_typeOf_21 (by decide) ?_
      refine x_icmp_eq 50 dX10_typeOf_23 (by decide) (fun c_23 => ?_) (fun c_23 => ?_)
      · rw [show (41 : Int32) = nI 41 from rfl, nI_eq (by omega) (by omega)] at c_23
        refine x_iconst (v := 1) dX10_typeOf_50 (by decide) ?_
        refine x_goto 55 dX10_typeOf_51 (by decide) ?_
        refine x_istore_n [(0, .int (nI c)), (1, .int 1)] dX10_typeOf_55 (by decide) rfl rfl ?_
        refine x_iload_n dX10_typeOf_56 rfl ?_
        refine x_if_eq 64 dX10_typeOf_57 (by decide) (fun c => absurd c (by decide)) (fun _ => ?_)
        refine x_iload_n dX10_typeOf_60 rfl ?_
        refine x_goto 65 dX10_typeOf_61 (by decide) ?_
        exact x_iret dX10_typeOf_65 rfl rfl (Nat.le_refl _) (Nat.le_refl _) ⟨by unfold tyB; first | rw [if_pos (by omega)]; rfl | rw [if_neg (by omega), if_pos (by omega)] | rw [if_neg (by omega), if_neg (by omega)]; rfl, rfl⟩
      · rw [show (41 : Int32) = nI 41 from rfl, nI_eq (by omega) (by omega)] at c_23
        refine x_iload_n dX10_typeOf_26 rfl ?_
        refine x_bipush (v := 44) dX10_typeOf_27 (by decide) ?_
        refine x_icmp_eq 50 dX10_typeOf_29 (by decide) (fun c_29 => ?_) (fun c_29 => ?_)
        · rw [show (44 : Int32) = nI 44 from rfl, nI_eq (by omega) (by omega)] at c_29
          refine x_iconst (v := 1) dX10_typeOf_50 (by decide) ?_
          refine x_goto 55 dX10_typeOf_51 (by decide) ?_
          refine x_istore_n [(0, .int (nI c)), (1, .int 1)] dX10_typeOf_55 (by decide) rfl rfl ?_
          refine x_iload_n dX10_typeOf_56 rfl ?_
          refine x_if_eq 64 dX10_typeOf_57 (by decide) (fun c => absurd c (by decide)) (fun _ => ?_)
          refine x_iload_n dX10_typeOf_60 rfl ?_
          refine x_goto 65 dX10_typeOf_61 (by decide) ?_
          exact x_iret dX10_typeOf_65 rfl rfl (Nat.le_refl _) (Nat.le_refl _) ⟨by unfold tyB; first | rw [if_pos (by omega)]; rfl | rw [if_neg (by omega), if_pos (by omega)] | rw [if_neg (by omega), if_neg (by omega)]; rfl, rfl⟩
        · rw [show (44 : Int32) = nI 44 from rfl, nI_eq (by omega) (by omega)] at c_29
          refine x_iload_n dX10_typeOf_32 rfl ?_
          refine x_bipush (v := 46) dX10_typeOf_33 (by decide) ?_
          refine x_icmp_eq 50 dX10_typeOf_35 (by decide) (fun c_35 => ?_) (fun c_35 => ?_)
          · rw [show (46 : Int32) = nI 46 from rfl, nI_eq (by omega) (by omega)] at c_35
            refine x_iconst (v := 1) dX10_typeOf_50 (by decide) ?_
            refine x_goto 55 dX10_typeOf_51 (by decide) ?_
            refine x_istore_n [(0, .int (nI c)), (1, .int 1)] dX10_typeOf_55 (by decide) rfl rfl ?_
            refine x_iload_n dX10_typeOf_56 rfl ?_
            refine x_if_eq 64 dX10_typeOf_57 (by decide) (fun c => absurd c (by decide)) (fun _ => ?_)
            refine x_iload_n dX10_typeOf_60 rfl ?_
            refine x_goto 65 dX10_typeOf_61 (by decide) ?_
            exact x_iret dX10_typeOf_65 rfl rfl (Nat.le_refl _) (Nat.le_refl _) ⟨by unfold tyB; first | rw [if_pos (by omega)]; rfl | rw [if_neg (by omega), if_pos (by omega)] | rw [if_neg (by omega), if_neg (by omega)]; rfl, rfl⟩
          · rw [show (46 : Int32) = nI 46 from rfl, nI_eq (by omega) (by omega)] at c_35
            refine x_iload_n dX10_typeOf_38 rfl ?_
            refine x_bipush (v := 58) dX10_typeOf_39 (by decide) ?_
            refine x_icmp_eq 50 dX10_typeOf_41 (by decide) (fun c_41 => ?_) (fun c_41 => ?_)
            · rw [show (58 : Int32) = nI 58 from rfl, nI_eq (by omega) (by omega)] at c_41
              refine x_iconst (v := 1) dX10_typeOf_50 (by decide) ?_
              refine x_goto 55 dX10_typeOf_51 (by decide) ?_
              refine x_istore_n [(0, .int (nI c)), (1, .int 1)] dX10_typeOf_55 (by decide) rfl rfl ?_
              refine x_iload_n dX10_typeOf_56 rfl ?_
              refine x_if_eq 64 dX10_typeOf_57 (by decide) (fun c => absurd c (by decide)) (fun _ => ?_)
              refine x_iload_n dX10_typeOf_60 rfl ?_
              refine x_goto 65 dX10_typeOf_61 (by decide) ?_
              exact x_iret dX10_typeOf_65 rfl rfl (Nat.le_refl _) (Nat.le_refl _) ⟨by unfold tyB; first | rw [if_pos (by omega)]; rfl | rw [if_neg (by omega), if_pos (by omega)] | rw [if_neg (by omega), if_neg (by omega)]; rfl, rfl⟩
            · rw [show (58 : Int32) = nI 58 from rfl, nI_eq (by omega) (by omega)] at c_41
              refine x_iload_n dX10_typeOf_44 rfl ?_
              refine x_bipush (v := 35) dX10_typeOf_45 (by decide) ?_
              refine x_icmp_ne 54 dX10_typeOf_47 (by decide) (fun c_47 => ?_) (fun c_47 => ?_)
              · rw [show (35 : Int32) = nI 35 from rfl, nI_eq (by omega) (by omega)] at c_47
                refine x_iconst (v := 0) dX10_typeOf_54 (by decide) ?_
                refine x_istore_n [(0, .int (nI c)), (1, .int 0)] dX10_typeOf_55 (by decide) rfl rfl ?_
                refine x_iload_n dX10_typeOf_56 rfl ?_
                refine x_if_eq 64 dX10_typeOf_57 (by decide) (fun _ => ?_) (fun c => absurd c (by decide))
                refine x_iconst (v := 1) dX10_typeOf_64 (by decide) ?_
                exact x_iret dX10_typeOf_65 rfl rfl (Nat.le_refl _) (Nat.le_refl _) ⟨by unfold tyB; first | rw [if_pos (by omega)]; rfl | rw [if_neg (by omega), if_pos (by omega)] | rw [if_neg (by omega), if_neg (by omega)]; rfl, rfl⟩
              · rw [show (35 : Int32) = nI 35 from rfl, nI_eq (by omega) (by omega)] at c_47
                refine x_iconst (v := 1) dX10_typeOf_50 (by decide) ?_
                refine x_goto 55 dX10_typeOf_51 (by decide) ?_
                refine x_istore_n [(0, .int (nI c)), (1, .int 1)] dX10_typeOf_55 (by decide) rfl rfl ?_
                refine x_iload_n dX10_typeOf_56 rfl ?_
                refine x_if_eq 64 dX10_typeOf_57 (by decide) (fun c => absurd c (by decide)) (fun _ => ?_)
                refine x_iload_n dX10_typeOf_60 rfl ?_
                refine x_goto 65 dX10_typeOf_61 (by decide) ?_
                exact x_iret dX10_typeOf_65 rfl rfl (Nat.le_refl _) (Nat.le_refl _) ⟨by unfold tyB; first | rw [if_pos (by omega)]; rfl | rw [if_neg (by omega), if_pos (by omega)] | rw [if_neg (by omega), if_neg (by omega)]; rfl, rfl⟩
  · rw [show (65 : Int32) = nI 65 from rfl, nI_ltI (by omega) (by omega)] at c_3
    refine x_iload_n dX10_typeOf_6 rfl ?_
    refine x_bipush (v := 72) dX10_typeOf_7 (by decide) ?_
    refine x_icmp_gt 14 dX10_typeOf_9 (by decide) (fun c_9 => ?_) (fun c_9 => ?_)
    · rw [show (72 : Int32) = nI 72 from rfl, nI_ltI (by omega) (by omega)] at c_9
      refine x_iload_n dX10_typeOf_14 rfl ?_
      refine x_bipush (v := 40) dX10_typeOf_15 (by decide) ?_
      refine x_icmp_eq 50 dX10_typeOf_17 (by decide) (fun c_17 => ?_) (fun c_17 => ?_)
      · rw [show (40 : Int32) = nI 40 from rfl, nI_eq (by omega) (by omega)] at c_17
        refine x_iconst (v := 1) dX10_typeOf_50 (by decide) ?_
        refine x_goto 55 dX10_typeOf_51 (by decide) ?_
        refine x_istore_n [(0, .int (nI c)), (1, .int 1)] dX10_typeOf_55 (by decide) rfl rfl ?_
        refine x_iload_n dX10_typeOf_56 rfl ?_
        refine x_if_eq 64 dX10_typeOf_57 (by decide) (fun c => absurd c (by decide)) (fun _ => ?_)
        refine x_iload_n dX10_typeOf_60 rfl ?_
        refine x_goto 65 dX10_typeOf_61 (by decide) ?_
        exact x_iret dX10_typeOf_65 rfl rfl (Nat.le_refl _) (Nat.le_refl _) ⟨by unfold tyB; first | rw [if_pos (by omega)]; rfl | rw [if_neg (by omega), if_pos (by omega)] | rw [if_neg (by omega), if_neg (by omega)]; rfl, rfl⟩
      · rw [show (40 : Int32) = nI 40 from rfl, nI_eq (by omega) (by omega)] at c_17
        refine x_iload_n dX10_typeOf_20 rfl ?_
        refine x_bipush (v := 41) dX10_typeOf_21 (by decide) ?_
        refine x_icmp_eq 50 dX10_typeOf_23 (by decide) (fun c_23 => ?_) (fun c_23 => ?_)
        · rw [show (41 : Int32) = nI 41 from rfl, nI_eq (by omega) (by omega)] at c_23
          refine x_iconst (v := 1) dX10_typeOf_50 (by decide) ?_
          refine x_goto 55 dX10_typeOf_51 (by decide) ?_
          refine x_istore_n [(0, .int (nI c)), (1, .int 1)] dX10_typeOf_55 (by decide) rfl rfl ?_
          refine x_iload_n dX10_typeOf_56 rfl ?_
          refine x_if_eq 64 dX10_typeOf_57 (by decide) (fun c => absurd c (by decide)) (fun _ => ?_)
          refine x_iload_n dX10_typeOf_60 rfl ?_
          refine x_goto 65 dX10_typeOf_61 (by decide) ?_
          exact x_iret dX10_typeOf_65 rfl rfl (Nat.le_refl _) (Nat.le_refl _) ⟨by unfold tyB; first | rw [if_pos (by omega)]; rfl | rw [if_neg (by omega), if_pos (by omega)] | rw [if_neg (by omega), if_neg (by omega)]; rfl, rfl⟩
        · rw [show (41 : Int32) = nI 41 from rfl, nI_eq (by omega) (by omega)] at c_23
          refine x_iload_n dX10_typeOf_26 rfl ?_
          refine x_bipush (v := 44) dX10_typeOf_27 (by decide) ?_
          refine x_icmp_eq 50 dX10_typeOf_29 (by decide) (fun c_29 => ?_) (fun c_29 => ?_)
          · rw [show (44 : Int32) = nI 44 from rfl, nI_eq (by omega) (by omega)] at c_29
            refine x_iconst (v := 1) dX10_typeOf_50 (by decide) ?_
            refine x_goto 55 dX10_typeOf_51 (by decide) ?_
            refine x_istore_n [(0, .int (nI c)), (1, .int 1)] dX10_typeOf_55 (by decide) rfl rfl ?_
            refine x_iload_n dX10_typeOf_56 rfl ?_
            refine x_if_eq 64 dX10_typeOf_57 (by decide) (fun c => absurd c (by decide)) (fun _ => ?_)
            refine x_iload_n dX10_typeOf_60 rfl ?_
            refine x_goto 65 dX10_typeOf_61 (by decide) ?_
            exact x_iret dX10_typeOf_65 rfl rfl (Nat.le_refl _) (Nat.le_refl _) ⟨by unfold tyB; first | rw [if_pos (by omega)]; rfl | rw [if_neg (by omega), if_pos (by omega)] | rw [if_neg (by omega), if_neg (by omega)]; rfl, rfl⟩
          · rw [show (44 : Int32) = nI 44 from rfl, nI_eq (by omega) (by omega)] at c_29
            refine x_iload_n dX10_typeOf_32 rfl ?_
            refine x_bipush (v := 46) dX10_typeOf_33 (by decide) ?_
            refine x_icmp_eq 50 dX10_typeOf_35 (by decide) (fun c_35 => ?_) (fun c_35 => ?_)
            · rw [show (46 : Int32) = nI 46 from rfl, nI_eq (by omega) (by omega)] at c_35
              refine x_iconst (v := 1) dX10_typeOf_50 (by decide) ?_
              refine x_goto 55 dX10_typeOf_51 (by decide) ?_
              refine x_istore_n [(0, .int (nI c)), (1, .int 1)] dX10_typeOf_55 (by decide) rfl rfl ?_
              refine x_iload_n dX10_typeOf_56 rfl ?_
              refine x_if_eq 64 dX10_typeOf_57 (by decide) (fun c => absurd c (by decide)) (fun _ => ?_)
              refine x_iload_n dX10_typeOf_60 rfl ?_
              refine x_goto 65 dX10_typeOf_61 (by decide) ?_
              exact x_iret dX10_typeOf_65 rfl rfl (Nat.le_refl _) (Nat.le_refl _) ⟨by unfold tyB; first | rw [if_pos (by omega)]; rfl | rw [if_neg (by omega), if_pos (by omega)] | rw [if_neg (by omega), if_neg (by omega)]; rfl, rfl⟩
            · rw [show (46 : Int32) = nI 46 from rfl, nI_eq (by omega) (by omega)] at c_35
              refine x_iload_n dX10_typeOf_38 rfl ?_
              refine x_bipush (v := 58) dX10_typeOf_39 (by decide) ?_
              refine x_icmp_eq 50 dX10_typeOf_41 (by decide) (fun c_41 => ?_) (fun c_41 => ?_)
              · rw [show (58 : Int32) = nI 58 from rfl, nI_eq (by omega) (by omega)] at c_41
                refine x_iconst (v := 1) dX10_typeOf_50 (by decide) ?_
                refine x_goto 55 dX10_typeOf_51 (by decide) ?_
                refine x_istore_n [(0, .int (nI c)), (1, .int 1)] dX10_typeOf_55 (by decide) rfl rfl ?_
                refine x_iload_n dX10_typeOf_56 rfl ?_
                refine x_if_eq 64 dX10_typeOf_57 (by decide) (fun c => absurd c (by decide)) (fun _ => ?_)
                refine x_iload_n dX10_typeOf_60 rfl ?_
                refine x_goto 65 dX10_typeOf_61 (by decide) ?_
                exact x_iret dX10_typeOf_65 rfl rfl (Nat.le_refl _) (Nat.le_refl _) ⟨by unfold tyB; first | rw [if_pos (by omega)]; rfl | rw [if_neg (by omega), if_pos (by omega)] | rw [if_neg (by omega), if_neg (by omega)]; rfl, rfl⟩
              · rw [show (58 : Int32) = nI 58 from rfl, nI_eq (by omega) (by omega)] at c_41
                refine x_iload_n dX10_typeOf_44 rfl ?_
                refine x_bipush (v := 35) dX10_typeOf_45 (by decide) ?_
                refine x_icmp_ne 54 dX10_typeOf_47 (by decide) (fun c_47 => ?_) (fun c_47 => ?_)
                · rw [show (35 : Int32) = nI 35 from rfl, nI_eq (by omega) (by omega)] at c_47
                  refine x_iconst (v := 0) dX10_typeOf_54 (by decide) ?_
                  refine x_istore_n [(0, .int (nI c)), (1, .int 0)] dX10_typeOf_55 (by decide) rfl rfl ?_
                  refine x_iload_n dX10_typeOf_56 rfl ?_
                  refine x_if_eq 64 dX10_typeOf_57 (by decide) (fun _ => ?_) (fun c => absurd c (by decide))
                  refine x_iconst (v := 1) dX10_typeOf_64 (by decide) ?_
                  exact x_iret dX10_typeOf_65 rfl rfl (Nat.le_refl _) (Nat.le_refl _) ⟨by unfold tyB; first | rw [if_pos (by omega)]; rfl | rw [if_neg (by omega), if_pos (by omega)] | rw [if_neg (by omega), if_neg (by omega)]; rfl, rfl⟩
                · rw [show (35 : Int32) = nI 35 from rfl, nI_eq (by omega) (by omega)] at c_47
                  refine x_iconst (v := 1) dX10_typeOf_50 (by decide) ?_
                  refine x_goto 55 dX10_typeOf_51 (by decide) ?_
                  refine x_istore_n [(0, .int (nI c)), (1, .int 1)] dX10_typeOf_55 (by decide) rfl rfl ?_
                  refine x_iload_n dX10_typeOf_56 rfl ?_
                  refine x_if_eq 64 dX10_typeOf_57 (by decide) (fun c => absurd c (by decide)) (fun _ => ?_)
                  refine x_iload_n dX10_typeOf_60 rfl ?_
                  refine x_goto 65 dX10_typeOf_61 (by decide) ?_
                  exact x_iret dX10_typeOf_65 rfl rfl (Nat.le_refl _) (Nat.le_refl _) ⟨by unfold tyB; first | rw [if_pos (by omega)]; rfl | rw [if_neg (by omega), if_pos (by omega)] | rw [if_neg (by omega), if_neg (by omega)]; rfl, rfl⟩
    · rw [show (72 : Int32) = nI 72 from rfl, nI_ltI (by omega) (by omega)] at c_9
      refine x_iconst (v := 3) dX10_typeOf_12 (by decide) ?_
      exact x_iret dX10_typeOf_13 rfl rfl (Nat.le_refl _) (Nat.le_refl _) ⟨by unfold tyB; first | rw [if_pos (by omega)]; rfl | rw [if_neg (by omega), if_pos (by omega)] | rw [if_neg (by omega), if_neg (by omega)]; rfl, rfl⟩
def tokH (h : xHp) (ts : Nat) (ty st : Nat → Int32) (wd : Nat → Int64) : Prop := h.1 182 = some (.inr (10, [.ref 183, .ref 184, .ref 185, .int (nI ts)])) ∧ h.1 183 = some (.inl (0, 401, .inl ty)) ∧ h.1 184 = some (.inl (0, 401, .inl st)) ∧ h.1 185 = some (.inl (1, 401, .inr (.inl wd)))
abbrev tL : List Nat := [182, 183, 184, 185]
set_option maxRecDepth 100000 in
set_option maxHeartbeats 4000000 in
theorem k_X10_put {G : xG} {h : xHp} {ts : Nat} {ty st : Nat → Int32} {wd : Nat → Int64} {y s : Int32} {v : Int64} (t : tokH h ts ty st wd) (ht : ts ≤ 400) : MX G mX10_put 1 0 0 [.ref 182, .int y, .int s, .long v] h (fun o h' => o = .inl none ∧ xfr h h' tL ∧ tokH h' (ts + 1) (upd ty ts y) (upd st ts s) (vp_updL wd ts v)) := by
  refine MX.of [(0, .ref 182), (1, .int y), (2, .int s), (3, .long v)] (by decide) rfl (Nat.le_of_ble_eq_true rfl) rfl ?_
  refine x_aload_n dX10_put_0 rfl ?_
  refine x_get lf_X10_22 dX10_put_1 t.1 rfl ?_
  refine x_sipush (v := 400) dX10_put_4 (by decide) ?_
  refine x_icmp_gt 50 dX10_put_7 (by decide) (fun c_7 => absurd c_7 (fun z => absurd ((nI_ltI (a := 400) (by omega) (by omega)).mp z) (by omega))) (fun c_7 => ?_)
  refine x_aload_n dX10_put_10 rfl ?_
  refine x_get lf_X10_9 dX10_put_11 t.1 rfl ?_
  refine x_aload_n dX10_put_14 rfl ?_
  refine x_get lf_X10_22 dX10_put_15 t.1 rfl ?_
  refine x_iload_n dX10_put_18 rfl ?_
  refine x_iastN (j := ts) t.2.1 rfl (by omega) (by decide) dX10_put_19 ?_
  refine x_aload_n dX10_put_20 rfl ?_
  refine x_get lf_X10_15 dX10_put_21 ((xup_ne (by decide)).trans t.1) rfl ?_
  refine x_aload_n dX10_put_24 rfl ?_
  refine x_get lf_X10_22 dX10_put_25 ((xup_ne (by decide)).trans t.1) rfl ?_
  refine x_iload_n dX10_put_28 rfl ?_
  refine x_iastN (j := ts) ((xup_ne (by decide)).trans t.2.2.1) rfl (by omega) (by decide) dX10_put_29 ?_
  refine x_aload_n dX10_put_30 rfl ?_
  refine x_get lf_X10_18 dX10_put_31 ((xup_ne (by decide)).trans ((xup_ne (by decide)).trans t.1)) rfl ?_
  refine x_aload_n dX10_put_34 rfl ?_
  refine x_get lf_X10_22 dX10_put_35 ((xup_ne (by decide)).trans ((xup_ne (by decide)).trans t.1)) rfl ?_
  refine x_lload_n dX10_put_38 rfl ?_
  refine x_lastN (j := ts) ((xup_ne (by decide)).trans ((xup_ne (by decide)).trans t.2.2.2)) rfl (by omega) (by decide) dX10_put_39 ?_
  refine x_aload_n dX10_put_40 rfl ?_
  refine x_dup dX10_put_41 rfl ?_
  refine x_get lf_X10_22 dX10_put_42 ((xup_ne (by decide)).trans ((xup_ne (by decide)).trans ((xup_ne (by decide)).trans t.1))) rfl ?_
  refine x_iconst (v := 1) dX10_put_45 (by decide) ?_
  refine x_iadd dX10_put_46 ?_
  refine x_top (y := nI (ts + 1)) (nI_add ts 1) ?_
  refine x_put [.ref 183, .ref 184, .ref 185, .int (nI (ts + 1))] lf_X10_22 dX10_put_47 ((xup_ne (by decide)).trans ((xup_ne (by decide)).trans ((xup_ne (by decide)).trans t.1))) (Nat.le_of_ble_eq_true rfl) rfl rfl rfl ?_
  exact x_vret dX10_put_50 rfl (Nat.le_refl _) (Nat.le_refl _) ⟨rfl, (((((xfr_rf _ _).up (by simp)).up (by simp)).up (by simp)).up (by simp)), (xup_self _ _ _), ((xup_ne (by decide)).trans ((xup_ne (by decide)).trans ((xup_ne (by decide)).trans (xup_self _ _ _)))), ((xup_ne (by decide)).trans ((xup_ne (by decide)).trans (xup_self _ _ _))), ((xup_ne (by decide)).trans (xup_self _ _ _))⟩
/-! reading TOKENS: what holds on the way -/
def apF {α : Type} (f : Nat → α) (i : Nat) (x : α) : Nat → α := fun k => if k = i then x else f k
def tk0 (b : Nat → Nat) (n i ts : Nat) (ty st : Nat → Int32) (wd : Nat → Int64) : Prop := ∃ (tk : Nat → Tk) (pos : Nat → Nat), pos 0 = 0 ∧ ts ≤ i ∧ i ≤ n ∧ (∀ j, j < ts → lexR b n (pos j) (tk j) (pos (j + 1)) ∧ 2 ≤ (tk j).1) ∧ (pos ts ≤ i ∧ ∀ j, pos ts ≤ j → j < i → isB (b j)) ∧ tkX ts tk ty st wd
def tk1 (b : Nat → Nat) (n i lt ts : Nat) (ty st : Nat → Int32) (wd : Nat → Int64) : Prop := ∃ q, q + lt = i ∧ 1 ≤ lt ∧ lt ≤ 8 ∧ i ≤ n ∧ tk0 b n q ts ty st wd ∧ (∀ j, j < lt → isL (b (q + j))) ∧ ty ts = 2 ∧ st ts = nI q ∧ wd ts = lN (xw (wdL b q lt))
def tkF (b : Nat → Nat) (n ts : Nat) (ty st : Nat → Int32) (wd : Nat → Int64) : Prop := ts ≤ 401 ∧ ∃ (tk : Nat → Tk) (pos : Nat → Nat), tkC b n ts tk pos ∧ tkX ts tk ty st wd
theorem tkX_cg {ts : Nat} {tk tk' : Nat → Tk} {ty st ty' st' : Nat → Int32} {wd wd' : Nat → Int64} (h : tkX ts tk ty st wd) (h0 : ∀ i, i < ts → tk' i = tk i ∧ ty' i = ty i ∧ st' i = st i ∧ wd' i = wd i) : tkX ts tk' ty' st' wd' := by
  intro i hi
  obtain ⟨a, b, c, d⟩ := h0 i hi
  rw [a, b, c, d]; exact h i hi
/-- one TOKEN more -/
theorem tk_app {b : Nat → Nat} {n ts p' : Nat} {t : Tk} {tk : Nat → Tk} {pos : Nat → Nat} {ty st ty' st' : Nat → Int32} {wd wd' : Nat → Int64} (h : ∀ j, j < ts → lexR b n (pos j) (tk j) (pos (j + 1)) ∧ 2 ≤ (tk j).1) (hx : tkX ts tk ty st wd) (ht : lexR b n (pos ts) t p') (h0 : ∀ i, i < ts → ty' i = ty i ∧ st' i = st i ∧ wd' i = wd i) (h1 : ty' ts = nI t.1 ∧ st' ts = nI t.2.1 ∧ (t.1 = 2 → wd' ts = lN (xw t.2.2)) ∧ (t.1 = 3 → ∃ c, c < 256 ∧ t.2.2 = [c] ∧ wd' ts = lN c)) : (∀ j, j < ts + 1 → lexR b n (apF pos (ts + 1) p' j) (apF tk ts t j) (apF pos (ts + 1) p' (j + 1))) ∧ (∀ j, j < ts → 2 ≤ (apF tk ts t j).1) ∧ tkX (ts + 1) (apF tk ts t) ty' st' wd' ∧ apF tk ts t ts = t := by
  refine ⟨fun j hj => ?_, fun j hj => ?_, fun i hi => ?_, by simp [apF]⟩
  · unfold apF
    rw [if_neg (show ¬ j = ts + 1 by omega)]
    by_cases z : j = ts
    · rw [if_pos z, if_pos (by omega), z]; exact ht
    · rw [if_neg z, if_neg (by omega)]; exact (h j (by omega)).1
  · unfold apF; rw [if_neg (by omega)]; exact (h j hj).2
  · unfold apF
    by_cases z : i = ts
    · rw [if_pos z, z]; exact h1
    · obtain ⟨a, b, c⟩ := h0 i (by omega)
      rw [if_neg z, a, b, c]; exact hx i (by omega)
theorem tk_0 (b : Nat → Nat) (n : Nat) (ty st : Nat → Int32) (wd : Nat → Int64) : tk0 b n 0 0 ty st wd := ⟨fun _ => (0, 0, []), fun _ => 0, rfl, Nat.le_refl _, Nat.zero_le _, fun j hj => absurd hj (by omega), ⟨Nat.le_refl _, fun j _ h => absurd h (by omega)⟩, fun i hi => absurd hi (by omega)⟩
/-- a WORD is whole -/
theorem tk_close {b : Nat → Nat} {n i lt ts : Nat} {ty st : Nat → Int32} {wd : Nat → Int64} (h : tk1 b n i lt ts ty st wd) (he : i = n ∨ ¬ isL (b i)) : tk0 b n i (ts + 1) ty st wd := by
  obtain ⟨q, q1, q2, q3, q4, ⟨tk, pos, p1, p2, p3, p4, p5, p6⟩, q6, q7, q8, q9⟩ := h
  subst q1
  have ht : lexR b n (pos ts) (2, q, wdL b q lt) (q + lt) := ⟨p5.1, p3, p5.2, Or.inr (Or.inl ⟨lt, q2, q3, q4, q6, he, rfl, rfl, rfl⟩)⟩
  obtain ⟨a1, a2, a3, a4⟩ := tk_app p4 p6 ht (fun _ _ => ⟨rfl, rfl, rfl⟩) ⟨q7, q8, fun _ => q9, fun z => by cases z⟩
  refine ⟨_, _, ?_, by omega, q4, fun j hj => ⟨a1 j hj, ?_⟩, ?_, a3⟩
  · show apF pos (ts + 1) (q + lt) 0 = 0
    unfold apF; rw [if_neg (by omega)]; exact p1
  · rcases Nat.lt_or_ge j ts with z | z
    · exact a2 j z
    · rw [show j = ts by omega, a4]; exact Nat.le_refl 2
  · have e : apF pos (ts + 1) (q + lt) (ts + 1) = q + lt := by simp [apF]
    rw [e]; exact ⟨Nat.le_refl _, fun j x y => absurd y (by omega)⟩
theorem tk_blank {b : Nat → Nat} {n i ts : Nat} {ty st : Nat → Int32} {wd : Nat → Int64} (h : tk0 b n i ts ty st wd) (hi : i < n) (hb : isB (b i)) : tk0 b n (i + 1) ts ty st wd := by
  obtain ⟨tk, pos, p1, p2, p3, p4, p5, p6⟩ := h
  refine ⟨tk, pos, p1, by omega, by omega, p4, ⟨by omega, fun j x y => ?_⟩, p6⟩
  rcases Nat.lt_or_ge j i with z | z
  · exact p5.2 j x z
  · rw [show j = i by omega]; exact hb
theorem upd_ne9 {α : Type} {f : Nat → Int32} {i k : Nat} {x : Int32} (h : k < i) : upd f i x k = f k := by unfold upd; rw [if_neg (by omega)]
theorem updL_ne9 {f : Nat → Int64} {i k : Nat} {x : Int64} (h : k ≠ i) : vp_updL f i x k = f k := by unfold vp_updL; rw [if_neg h]
theorem updL_at9 {f : Nat → Int64} {i : Nat} {x : Int64} : vp_updL f i x i = x := by unfold vp_updL; rw [if_pos rfl]
theorem upd_at9 {f : Nat → Int32} {i : Nat} {x : Int32} : upd f i x i = x := by unfold upd; rw [if_pos rfl]
/-- a TOKEN of one byte -/
theorem tk_one {b : Nat → Nat} {n i ts : Nat} {ty st : Nat → Int32} {wd : Nat → Int64} (h : tk0 b n i ts ty st wd) (hi : i < n) (hc : b i < 256) (hl : ¬ isL (b i)) (hb : ¬ isB (b i)) (h1 : ¬ tyB (b i) = 1) : tk0 b n (i + 1) (ts + 1) (upd ty ts (nI (tyB (b i)))) (upd st ts (nI i)) (vp_updL wd ts (nI (b i)).toInt64) := by
  obtain ⟨tk, pos, p1, p2, p3, p4, p5, p6⟩ := h
  have hty : (isS (b i) ∧ tyB (b i) = 3) ∨ (isM (b i) ∧ tyB (b i) = b i ∧ ¬ isS (b i)) := by
    unfold tyB at h1 ⊢
    by_cases z : 65 ≤ b i ∧ b i ≤ 72
    · rw [if_pos z]; exact Or.inl ⟨z, rfl⟩
    · rw [if_neg z] at h1 ⊢
      by_cases z2 : b i = 40 ∨ b i = 41 ∨ b i = 44 ∨ b i = 46 ∨ b i = 58 ∨ b i = 35
      · rw [if_pos z2]; exact Or.inr ⟨z2, rfl, z⟩
      · rw [if_neg z2] at h1; exact absurd rfl h1
  have ht : lexR b n (pos ts) (tyB (b i), i, [b i]) (i + 1) := ⟨p5.1, p3, p5.2, by
    rcases hty with ⟨a, c⟩ | ⟨a, c, -⟩
    · exact Or.inr (Or.inr (Or.inr (Or.inl ⟨hi, a, c, rfl, rfl⟩)))
    · exact Or.inr (Or.inr (Or.inr (Or.inr (Or.inl ⟨hi, a, c, rfl⟩))))⟩
  have hge : 2 ≤ tyB (b i) := by
    rcases hty with ⟨a, c⟩ | ⟨a, c, -⟩
    · omega
    · unfold isM at a; omega
  obtain ⟨a1, a2, a3, a4⟩ := tk_app (ty' := upd ty ts (nI (tyB (b i)))) (st' := upd st ts (nI i)) (wd' := vp_updL wd ts (nI (b i)).toInt64) p4 p6 ht (fun k hk => ⟨upd_ne9 (α := Nat) hk, upd_ne9 (α := Nat) hk, updL_ne9 (by omega)⟩) ⟨upd_at9, upd_at9, fun z => (by
    have z : tyB (b i) = 2 := z
    rcases hty with ⟨a, c⟩ | ⟨a, c, -⟩
    · omega
    · unfold isM at a; omega), fun _ => ⟨b i, hc, rfl, by rw [updL_at9, nI_l (by omega)]⟩⟩
  refine ⟨_, _, ?_, by omega, by omega, fun j hj => ⟨a1 j hj, ?_⟩, ?_, a3⟩
  · show apF pos (ts + 1) (i + 1) 0 = 0
    unfold apF; rw [if_neg (by omega)]; exact p1
  · rcases Nat.lt_or_ge j ts with z | z
    · exact a2 j z
    · rw [show j = ts by omega, a4]; exact hge
  · have e : apF pos (ts + 1) (i + 1) (ts + 1) = i + 1 := by simp [apF]
    rw [e]; exact ⟨Nat.le_refl _, fun j x y => absurd y (by omega)⟩
/-- the last TOKEN -/
theorem tk_fin {b : Nat → Nat} {n i ts : Nat} {ty st ty' st' : Nat → Int32} {wd wd' : Nat → Int64} {t : Tk} {p' : Nat} (h : tk0 b n i ts ty st wd) (hn : n ≤ 400) (ht : t.2.1 = i) (hl : lxA b n i t p') (h1 : t.1 ≤ 1) (h0 : ∀ k, k < ts → ty' k = ty k ∧ st' k = st k ∧ wd' k = wd k) (h2 : ty' ts = nI t.1) (h3 : st' ts = nI i) : tkF b n (ts + 1) ty' st' wd' := by
  obtain ⟨tk, pos, p1, p2, p3, p4, p5, p6⟩ := h
  have hlx : lexR b n (pos ts) t p' := ⟨by rw [ht]; exact p5.1, by rw [ht]; exact p3, by rw [ht]; exact p5.2, by rw [ht]; exact hl⟩
  obtain ⟨a1, a2, a3, a4⟩ := tk_app p4 p6 hlx h0 ⟨h2, by rw [ht]; exact h3, fun z => by omega, fun z => by omega⟩
  refine ⟨by omega, _, _, ⟨?_, a1, by omega, ?_, fun j hj => a2 j (by omega)⟩, a3⟩
  · show apF pos (ts + 1) p' 0 = 0
    unfold apF; rw [if_neg (by omega)]; exact p1
  · rw [show ts + 1 - 1 = ts by omega, a4]; exact h1
theorem tk_end {b : Nat → Nat} {n ts : Nat} {ty st : Nat → Int32} {wd : Nat → Int64} {v : Int64} (h : tk0 b n n ts ty st wd) (hn : n ≤ 400) : tkF b n (ts + 1) (upd ty ts 0) (upd st ts (nI n)) (vp_updL wd ts v) :=
  tk_fin (t := (0, n, [])) h hn rfl (Or.inl ⟨rfl, rfl, rfl⟩) (show 0 ≤ 1 by omega) (fun k hk => ⟨upd_ne9 (α := Nat) hk, upd_ne9 (α := Nat) hk, updL_ne9 (by omega)⟩) upd_at9 upd_at9
theorem tk_bad {b : Nat → Nat} {n i ts : Nat} {ty st : Nat → Int32} {wd : Nat → Int64} {v : Int64} (h : tk0 b n i ts ty st wd) (hn : n ≤ 400) (hi : i < n) (hl : ¬ isL (b i)) (hb : ¬ isB (b i)) (h1 : tyB (b i) = 1) : tkF b n (ts + 1) (upd ty ts (nI (tyB (b i)))) (upd st ts (nI i)) (vp_updL wd ts v) := by
  have hty : ¬ isS (b i) ∧ ¬ isM (b i) := by
    unfold tyB at h1
    split at h1
    next => omega
    next z =>
      split at h1
      next z2 => unfold isS isM; omega
      next z2 => exact ⟨z, z2⟩
  exact tk_fin (t := (1, i, [])) (p' := 0) h hn rfl (Or.inr (Or.inr (Or.inr (Or.inr (Or.inr ⟨hi, hl, hb, hty.1, hty.2, rfl⟩))))) (Nat.le_refl 1) (fun k hk => ⟨upd_ne9 (α := Nat) hk, upd_ne9 (α := Nat) hk, updL_ne9 (by omega)⟩) (by rw [upd_at9, h1]) upd_at9
theorem tk_nine {b : Nat → Nat} {n i ts : Nat} {ty st : Nat → Int32} {wd : Nat → Int64} (h : tk1 b n i 8 ts ty st wd) (hn : n ≤ 400) (hi : i < n) (hl : isL (b i)) : tkF b n (ts + 1) (upd ty ts 1) st wd := by
  obtain ⟨q, q1, q2, q3, q4, q5, q6, q7, q8, q9⟩ := h
  refine tk_fin (t := (1, q, [])) (p' := 0) q5 hn rfl (Or.inr (Or.inr (Or.inl ⟨by omega, fun j hj => ?_, rfl⟩))) (Nat.le_refl 1) (fun k hk => ⟨upd_ne9 (α := Nat) hk, rfl, rfl⟩) upd_at9 q8
  rcases Nat.lt_or_ge j 8 with z | z
  · exact q6 j z
  · rw [show q + j = i by omega]; exact hl
theorem p256b : ∀ k, k < 8 → 256 ^ k ≤ 2 ^ 56 := by decide
theorem wd_or {a c k : Nat} (ha : a < 256 ^ k) (hk : k < 8) (hc : c < 128) : lN a ||| ((nI c).toInt64 <<< ((nI (8 * k)).toInt64 &&& 63)) = lN (a + 256 ^ k * c) := by
  have h1 := p256b k hk
  have h2 : 256 ^ k * c ≤ 2 ^ 56 * 128 := Nat.mul_le_mul h1 (by omega)
  have h3 : (2 : Nat) ^ (8 * k) = 256 ^ k := by rw [Nat.pow_mul]
  rw [nI_l (by omega), wb_shl c (by omega), h3, Nat.mul_comm c, wb_or (by omega) (by omega)]
  rw [Nat.or_comm, ← h3, ← Nat.two_pow_add_eq_or_of_lt (by rw [h3]; exact ha), h3, Nat.add_comm]
theorem tk_first {b : Nat → Nat} {n i ts : Nat} {ty st : Nat → Int32} {wd : Nat → Int64} (h : tk0 b n i ts ty st wd) (hi : i < n) (hl : isL (b i)) : tk1 b n (i + 1) 1 ts (upd ty ts 2) (upd st ts (nI i)) (vp_updL (vp_updL wd ts 0) ts (vp_updL wd ts 0 ts ||| ((nI (b i)).toInt64 <<< ((nI (8 * 0)).toInt64 &&& 63)))) := by
  obtain ⟨tk, pos, p1, p2, p3, p4, p5, p6⟩ := h
  refine ⟨i, rfl, by omega, by omega, by omega, ⟨tk, pos, p1, p2, by omega, p4, p5, tkX_cg p6 (fun k hk => ⟨rfl, upd_ne9 (α := Nat) hk, upd_ne9 (α := Nat) hk, by rw [updL_ne9 (by omega), updL_ne9 (by omega)]⟩)⟩, fun j hj => by rw [show j = 0 by omega]; exact hl, upd_at9, upd_at9, ?_⟩
  unfold isL at hl
  rw [updL_at9, updL_at9, show (0 : Int64) = lN 0 from rfl, wd_or (by omega) (by omega) (by omega), wdL_s, wdL_0]
  congr 1
  simp [xw]; omega
theorem tk_more {b : Nat → Nat} {n i lt ts : Nat} {ty st : Nat → Int32} {wd : Nat → Int64} (h : tk1 b n i lt ts ty st wd) (hi : i < n) (h8 : lt < 8) (hl : isL (b i)) : tk1 b n (i + 1) (lt + 1) ts ty st (vp_updL wd ts (wd ts ||| ((nI (b i)).toInt64 <<< ((nI (8 * lt)).toInt64 &&& 63)))) := by
  obtain ⟨q, q1, q2, q3, q4, ⟨tk, pos, p1, p2, p3, p4, p5, p6⟩, q6, q7, q8, q9⟩ := h
  subst q1
  refine ⟨q, by omega, by omega, by omega, by omega, ⟨tk, pos, p1, p2, p3, p4, p5, tkX_cg p6 (fun k hk => ⟨rfl, rfl, rfl, updL_ne9 (by omega)⟩)⟩, fun j hj => ?_, q7, q8, ?_⟩
  · rcases Nat.lt_or_ge j lt with z | z
    · exact q6 j z
    · rw [show q + j = q + lt by omega]; exact hl
  · have hx := xw_lt (wdL_ok q6)
    rw [wdL_len] at hx
    unfold isL at hl
    rw [updL_at9, q9, wd_or hx (by omega) (by omega), wdL_s, xw_app, wdL_len]
    congr 2
    congr 1
    omega
def tkV (b : Nat → Nat) (n i lt ts : Nat) (ty st : Nat → Int32) (wd : Nat → Int64) : Prop := (lt = 0 ∧ tk0 b n i ts ty st wd) ∨ ∃ t1, ts = t1 + 1 ∧ tk1 b n i lt t1 ty st wd
theorem tkClose {b : Nat → Nat} {n i lt ts : Nat} {ty st : Nat → Int32} {wd : Nat → Int64} (h : tkV b n i lt ts ty st wd) (he : i = n ∨ ¬ isL (b i)) : tk0 b n i ts ty st wd := by
  rcases h with ⟨-, h⟩ | ⟨t1, rfl, h⟩
  · exact h
  · exact tk_close h he
theorem tkTs {b : Nat → Nat} {n i lt ts : Nat} {ty st : Nat → Int32} {wd : Nat → Int64} (h : tkV b n i lt ts ty st wd) : ts ≤ i := by
  rcases h with ⟨-, h⟩ | ⟨t1, rfl, q, q1, q2, q3, q4, ⟨_, _, _, z, _⟩, _⟩
  · obtain ⟨_, _, _, z, _⟩ := h; exact z
  · omega
theorem tkIn {b : Nat → Nat} {n i lt ts : Nat} {ty st : Nat → Int32} {wd : Nat → Int64} (h : tkV b n i lt ts ty st wd) : i ≤ n := by
  rcases h with ⟨-, h⟩ | ⟨t1, rfl, q, q1, q2, q3, q4, _⟩
  · obtain ⟨_, _, _, _, z, _⟩ := h; exact z
  · exact q4
theorem tkFirst {b : Nat → Nat} {n i lt ts : Nat} {ty st : Nat → Int32} {wd : Nat → Int64} (h : tkV b n i lt ts ty st wd) (h0 : lt = 0) (hi : i < n) (hl : isL (b i)) : tk1 b n (i + 1) (lt + 1) ts (upd ty ts 2) (upd st ts (nI i)) (vp_updL (vp_updL wd ts 0) (ts + 1 - 1) (vp_updL wd ts 0 (ts + 1 - 1) ||| ((nI (b i)).toInt64 <<< ((nI (8 * lt)).toInt64 &&& 63)))) := by
  subst h0
  rcases h with ⟨-, h⟩ | ⟨t1, rfl, q, q1, q2, _⟩
  · exact tk_first h hi hl
  · exact absurd q2 (by omega)
theorem tkMore {b : Nat → Nat} {n i lt ts : Nat} {ty st : Nat → Int32} {wd : Nat → Int64} (h : tkV b n i lt ts ty st wd) (h0 : ¬ lt = 0) (hi : i < n) (h8 : lt < 8) (hl : isL (b i)) : tkV b n (i + 1) (lt + 1) ts ty st (vp_updL wd (ts - 1) (wd (ts - 1) ||| ((nI (b i)).toInt64 <<< ((nI (8 * lt)).toInt64 &&& 63)))) := by
  rcases h with ⟨z, h⟩ | ⟨t1, rfl, h⟩
  · exact absurd z h0
  · exact Or.inr ⟨t1, rfl, tk_more h hi h8 hl⟩
theorem tkNine {b : Nat → Nat} {n i lt ts : Nat} {ty st : Nat → Int32} {wd : Nat → Int64} (h : tkV b n i lt ts ty st wd) (hn : n ≤ 400) (h8 : 8 ≤ lt) (hi : i < n) (hl : isL (b i)) : tkF b n ts (upd ty (ts - 1) 1) st wd := by
  rcases h with ⟨z, h⟩ | ⟨t1, rfl, h⟩
  · omega
  · have e : lt = 8 := by obtain ⟨q, _, _, z, _⟩ := h; omega
    subst e
    exact tk_nine h hn hi hl
theorem tkPos {b : Nat → Nat} {n i lt ts : Nat} {ty st : Nat → Int32} {wd : Nat → Int64} (h : tkV b n i lt ts ty st wd) (h0 : ¬ lt = 0) : 1 ≤ ts := by
  rcases h with ⟨z, h⟩ | ⟨t1, rfl, h⟩
  · exact absurd z h0
  · omega
theorem tkLt {b : Nat → Nat} {n i lt ts : Nat} {ty st : Nat → Int32} {wd : Nat → Int64} (h : tkV b n i lt ts ty st wd) : lt ≤ 8 := by
  rcases h with ⟨z, h⟩ | ⟨t1, rfl, q, _, _, z, _⟩ <;> omega
set_option maxRecDepth 100000 in
set_option maxHeartbeats 4000000 in
theorem l_X10_read {G : xG} {h : xHp} {tp : Nat → Int32} {b : Nat → Nat} {n : Nat} (htp : h.1 2 = some (.inl (0, 400, .inl tp))) (hn : n ≤ 400) (hb : ∀ k, k < n → tp k = nI (b k) ∧ b k < 256) : ∀ (k i lt ts : Nat) (ty st : Nat → Int32) (wd : Nat → Int64) (h1 : xHp), i ≤ n → n + 1 ≤ i + k → tkV b n i lt ts ty st wd → xfr h h1 tL → tokH h1 ts ty st wd → Wx G mX10_read (xRm 2 0 0) (xF G (fun o h' => o = .inl none ∧ xfr h h' tL ∧ ∃ ts ty st wd, tokH h' ts ty st wd ∧ tkF b n ts ty st wd) 0 0) 0 0 10 [(0, .ref 182), (1, .ref 2), (2, .int (nI n)), (3, .int (nI lt)), (4, .int (nI i))] [] h1 := by
  intro k
  induction k with
  | zero => exact fun i lt ts ty st wd h1 q1 q2 => absurd q2 (by omega)
  | succ k ih =>
    intro i lt ts ty st wd h1 q1 q2 hinv w1 t
    have hlt8 := tkLt hinv
    refine x_iload dX10_read_10 rfl ?_
    refine x_iload_n dX10_read_12 rfl ?_
    refine x_icmp_ge 155 dX10_read_13 (by decide) (fun c_13 => ?_) (fun c_13 => ?_)
    · rw [nI_leI (by omega) (by omega)] at c_13
      have hin := tkIn hinv
      have e9 : i = n := by omega
      subst e9
      have hcl : tk0 b i i ts ty st wd := tkClose hinv (Or.inl rfl)
      have hts := tkTs hinv
      refine x_aload_n dX10_read_155 rfl ?_
      refine x_iconst (v := 0) dX10_read_156 (by decide) ?_
      refine x_iload_n dX10_read_157 rfl ?_
      refine x_lconst (v := 0) dX10_read_158 (by decide) ?_
      refine x_callV (As := [.int 0, .int (nI i), .long 0]) (st := []) lv_X10_26 (k_X10_put t (by omega)) dX10_read_159 t.1 rfl rfl (Nat.le_of_ble_eq_true rfl) ⟨by decide, by decide⟩ ⟨by decide, by decide⟩ (fun v9 hp0 q => ?_) (fun _ _ _ _ _ q => by cases q.1)
      obtain ⟨ev, wp0a, tp0⟩ := q
      cases ev
      have wp0 := w1.tr wp0a
      exact x_vret dX10_read_162 rfl (Nat.le_refl _) (Nat.le_refl _) ⟨rfl, wp0, _, _, _, _, ⟨tp0.1, tp0.2.1, tp0.2.2.1, tp0.2.2.2⟩, tk_end hcl hn⟩
    · rw [nI_leI (by omega) (by omega)] at c_13
      refine x_iload dX10_read_16 rfl ?_
      refine x_sipush (v := 400) dX10_read_18 (by decide) ?_
      refine x_icmp_ge 155 dX10_read_21 (by decide) (fun c_21 => ?_) (fun c_21 => ?_)
      · rw [show (400 : Int32) = nI 400 from rfl, nI_leI (by omega) (by omega)] at c_21
        have hin := tkIn hinv
        have e9 : i = n := by omega
        subst e9
        have hcl : tk0 b i i ts ty st wd := tkClose hinv (Or.inl rfl)
        have hts := tkTs hinv
        refine x_aload_n dX10_read_155 rfl ?_
        refine x_iconst (v := 0) dX10_read_156 (by decide) ?_
        refine x_iload_n dX10_read_157 rfl ?_
        refine x_lconst (v := 0) dX10_read_158 (by decide) ?_
        refine x_callV (As := [.int 0, .int (nI i), .long 0]) (st := []) lv_X10_26 (k_X10_put t (by omega)) dX10_read_159 t.1 rfl rfl (Nat.le_of_ble_eq_true rfl) ⟨by decide, by decide⟩ ⟨by decide, by decide⟩ (fun v9 hp1 q => ?_) (fun _ _ _ _ _ q => by cases q.1)
        obtain ⟨ev, wp1a, tp1⟩ := q
        cases ev
        have wp1 := w1.tr wp1a
        exact x_vret dX10_read_162 rfl (Nat.le_refl _) (Nat.le_refl _) ⟨rfl, wp1, _, _, _, _, ⟨tp1.1, tp1.2.1, tp1.2.2.1, tp1.2.2.2⟩, tk_end hcl hn⟩
      · rw [show (400 : Int32) = nI 400 from rfl, nI_leI (by omega) (by omega)] at c_21
        have hbi := hb i (by omega)
        have hts := tkTs hinv
        have htb := tyB_lt hbi.2
        refine x_aload_n dX10_read_24 rfl ?_
        refine x_iload dX10_read_25 rfl ?_
        refine x_ialdN (j := i) (w1.at htp (by decide)) rfl (by omega) (by decide) dX10_read_27 ?_
        refine x_top (y := nI (b i)) ((hb i (by omega)).1) ?_
        refine x_istore [(0, .ref 182), (1, .ref 2), (2, .int (nI n)), (3, .int (nI lt)), (4, .int (nI i)), (5, .int (nI (b i)))] dX10_read_28 (by decide) rfl rfl ?_
        refine x_iload dX10_read_30 rfl ?_
        refine x_bipush (v := 97) dX10_read_32 (by decide) ?_
        refine x_icmp_lt 103 dX10_read_34 (by decide) (fun c_34 => ?_) (fun c_34 => ?_)
        · rw [show (97 : Int32) = nI 97 from rfl, nI_ltI (by omega) (by omega)] at c_34
          have hcl : tk0 b n i ts ty st wd := tkClose hinv (Or.inr (by unfold isL; omega))
          refine x_iconst (v := 0) dX10_read_103 (by decide) ?_
          refine x_istore_n [(0, .ref 182), (1, .ref 2), (2, .int (nI n)), (3, .int 0), (4, .int (nI i)), (5, .int (nI (b i)))] dX10_read_104 (by decide) rfl rfl ?_
          refine x_iload dX10_read_105 rfl ?_
          refine x_bipush (v := 32) dX10_read_107 (by decide) ?_
          refine x_icmp_eq 149 dX10_read_109 (by decide) (fun c_109 => ?_) (fun c_109 => ?_)
          · rw [show (32 : Int32) = nI 32 from rfl, nI_eq (by omega) (by omega)] at c_109
            refine x_iinc (v := nI (i + 1)) [(0, .ref 182), (1, .ref 2), (2, .int (nI n)), (3, .int 0), (4, .int (nI (i + 1))), (5, .int (nI (b i)))] dX10_read_149 rfl (nI_add i 1) (by decide) rfl rfl ?_
            refine x_goto 10 dX10_read_152 (by decide) ?_
            exact x_ls _ [0, 1, 2, 3, 4] rfl (ih (i + 1) 0 _ _ _ _ _ (by omega) (by omega) (Or.inl ⟨rfl, tk_blank hcl (by omega) (by unfold isB; omega)⟩) w1 ⟨t.1, t.2.1, t.2.2.1, t.2.2.2⟩)
          · rw [show (32 : Int32) = nI 32 from rfl, nI_eq (by omega) (by omega)] at c_109
            refine x_iload dX10_read_112 rfl ?_
            refine x_bipush (v := 10) dX10_read_114 (by decide) ?_
            refine x_icmp_eq 149 dX10_read_116 (by decide) (fun c_116 => ?_) (fun c_116 => ?_)
            · rw [show (10 : Int32) = nI 10 from rfl, nI_eq (by omega) (by omega)] at c_116
              refine x_iinc (v := nI (i + 1)) [(0, .ref 182), (1, .ref 2), (2, .int (nI n)), (3, .int 0), (4, .int (nI (i + 1))), (5, .int (nI (b i)))] dX10_read_149 rfl (nI_add i 1) (by decide) rfl rfl ?_
              refine x_goto 10 dX10_read_152 (by decide) ?_
              exact x_ls _ [0, 1, 2, 3, 4] rfl (ih (i + 1) 0 _ _ _ _ _ (by omega) (by omega) (Or.inl ⟨rfl, tk_blank hcl (by omega) (by unfold isB; omega)⟩) w1 ⟨t.1, t.2.1, t.2.2.1, t.2.2.2⟩)
            · rw [show (10 : Int32) = nI 10 from rfl, nI_eq (by omega) (by omega)] at c_116
              refine x_aload_n dX10_read_119 rfl ?_
              refine x_iload dX10_read_120 rfl ?_
              refine x_callS (As := [.int (nI (b i))]) (st := [.ref 182]) ls_X10_30 (k_X10_typeOf (hb i (by omega)).2) dX10_read_122 rfl rfl (Nat.le_of_ble_eq_true rfl) ⟨by decide, by decide⟩ ⟨by decide, by decide⟩ (fun v hq9 q => ?_) (fun _ _ _ _ _ q => by cases q.1)
              obtain ⟨ev, eh⟩ := q
              rw [eh]
              cases ev
              refine x_iload dX10_read_125 rfl ?_
              refine x_iload dX10_read_127 rfl ?_
              refine x_i2l dX10_read_129 ?_
              refine x_callV (As := [.int (nI (tyB (b i))), .int (nI i), .long ((nI (b i)).toInt64)]) (st := []) lv_X10_26 (k_X10_put t (by omega)) dX10_read_130 t.1 rfl rfl (Nat.le_of_ble_eq_true rfl) ⟨by decide, by decide⟩ ⟨by decide, by decide⟩ (fun v9 hp2 q => ?_) (fun _ _ _ _ _ q => by cases q.1)
              obtain ⟨ev, wp2a, tp2⟩ := q
              cases ev
              have wp2 := w1.tr wp2a
              refine x_aload_n dX10_read_133 rfl ?_
              refine x_get lf_X10_9 dX10_read_134 tp2.1 rfl ?_
              refine x_aload_n dX10_read_137 rfl ?_
              refine x_get lf_X10_22 dX10_read_138 tp2.1 rfl ?_
              refine x_iconst (v := 1) dX10_read_141 (by decide) ?_
              refine x_isub dX10_read_142 ?_
              refine x_top (y := nI ((ts + 1) - 1)) (pk_sub (a := ts + 1) (b := 1) (by omega)) ?_
              refine x_ialdN (j := (ts + 1) - 1) tp2.2.1 rfl (by omega) (by decide) dX10_read_143 ?_
              refine x_top (y := nI (tyB (b i))) upd_at9 ?_
              refine x_iconst (v := 1) dX10_read_144 (by decide) ?_
              refine x_icmp_ne 149 dX10_read_145 (by decide) (fun c_145 => ?_) (fun c_145 => ?_)
              · rw [show (1 : Int32) = nI 1 from rfl, nI_eq (by omega) (by omega)] at c_145
                refine x_iinc (v := nI (i + 1)) [(0, .ref 182), (1, .ref 2), (2, .int (nI n)), (3, .int 0), (4, .int (nI (i + 1))), (5, .int (nI (b i)))] dX10_read_149 rfl (nI_add i 1) (by decide) rfl rfl ?_
                refine x_goto 10 dX10_read_152 (by decide) ?_
                exact x_ls _ [0, 1, 2, 3, 4] rfl (ih (i + 1) 0 _ _ _ _ _ (by omega) (by omega) (Or.inl ⟨rfl, tk_one hcl (by omega) hbi.2 (by unfold isL; omega) (by unfold isB; omega) c_145⟩) wp2 ⟨tp2.1, tp2.2.1, tp2.2.2.1, tp2.2.2.2⟩)
              · rw [show (1 : Int32) = nI 1 from rfl, nI_eq (by omega) (by omega)] at c_145
                exact x_vret dX10_read_148 rfl (Nat.le_refl _) (Nat.le_refl _) ⟨rfl, wp2, _, _, _, _, ⟨tp2.1, tp2.2.1, tp2.2.2.1, tp2.2.2.2⟩, tk_bad hcl hn (by omega) (by unfold isL; omega) (by unfold isB; omega) c_145⟩
        · rw [show (97 : Int32) = nI 97 from rfl, nI_ltI (by omega) (by omega)] at c_34
          refine x_iload dX10_read_37 rfl ?_
          refine x_bipush (v := 122) dX10_read_39 (by decide) ?_
          refine x_icmp_gt 103 dX10_read_41 (by decide) (fun c_41 => ?_) (fun c_41 => ?_)
          · rw [show (122 : Int32) = nI 122 from rfl, nI_ltI (by omega) (by omega)] at c_41
            have hcl : tk0 b n i ts ty st wd := tkClose hinv (Or.inr (by unfold isL; omega))
            refine x_iconst (v := 0) dX10_read_103 (by decide) ?_
            refine x_istore_n [(0, .ref 182), (1, .ref 2), (2, .int (nI n)), (3, .int 0), (4, .int (nI i)), (5, .int (nI (b i)))] dX10_read_104 (by decide) rfl rfl ?_
            refine x_iload dX10_read_105 rfl ?_
            refine x_bipush (v := 32) dX10_read_107 (by decide) ?_
            refine x_icmp_eq 149 dX10_read_109 (by decide) (fun c_109 => ?_) (fun c_109 => ?_)
            · rw [show (32 : Int32) = nI 32 from rfl, nI_eq (by omega) (by omega)] at c_109
              refine x_iinc (v := nI (i + 1)) [(0, .ref 182), (1, .ref 2), (2, .int (nI n)), (3, .int 0), (4, .int (nI (i + 1))), (5, .int (nI (b i)))] dX10_read_149 rfl (nI_add i 1) (by decide) rfl rfl ?_
              refine x_goto 10 dX10_read_152 (by decide) ?_
              exact x_ls _ [0, 1, 2, 3, 4] rfl (ih (i + 1) 0 _ _ _ _ _ (by omega) (by omega) (Or.inl ⟨rfl, tk_blank hcl (by omega) (by unfold isB; omega)⟩) w1 ⟨t.1, t.2.1, t.2.2.1, t.2.2.2⟩)
            · rw [show (32 : Int32) = nI 32 from rfl, nI_eq (by omega) (by omega)] at c_109
              refine x_iload dX10_read_112 rfl ?_
              refine x_bipush (v := 10) dX10_read_114 (by decide) ?_
              refine x_icmp_eq 149 dX10_read_116 (by decide) (fun c_116 => ?_) (fun c_116 => ?_)
              · rw [show (10 : Int32) = nI 10 from rfl, nI_eq (by omega) (by omega)] at c_116
                refine x_iinc (v := nI (i + 1)) [(0, .ref 182), (1, .ref 2), (2, .int (nI n)), (3, .int 0), (4, .int (nI (i + 1))), (5, .int (nI (b i)))] dX10_read_149 rfl (nI_add i 1) (by decide) rfl rfl ?_
                refine x_goto 10 dX10_read_152 (by decide) ?_
                exact x_ls _ [0, 1, 2, 3, 4] rfl (ih (i + 1) 0 _ _ _ _ _ (by omega) (by omega) (Or.inl ⟨rfl, tk_blank hcl (by omega) (by unfold isB; omega)⟩) w1 ⟨t.1, t.2.1, t.2.2.1, t.2.2.2⟩)
              · rw [show (10 : Int32) = nI 10 from rfl, nI_eq (by omega) (by omega)] at c_116
                refine x_aload_n dX10_read_119 rfl ?_
                refine x_iload dX10_read_120 rfl ?_
                refine x_callS (As := [.int (nI (b i))]) (st := [.ref 182]) ls_X10_30 (k_X10_typeOf (hb i (by omega)).2) dX10_read_122 rfl rfl (Nat.le_of_ble_eq_true rfl) ⟨by decide, by decide⟩ ⟨by decide, by decide⟩ (fun v hq9 q => ?_) (fun _ _ _ _ _ q => by cases q.1)
                obtain ⟨ev, eh⟩ := q
                rw [eh]
                cases ev
                refine x_iload dX10_read_125 rfl ?_
                refine x_iload dX10_read_127 rfl ?_
                refine x_i2l dX10_read_129 ?_
                refine x_callV (As := [.int (nI (tyB (b i))), .int (nI i), .long ((nI (b i)).toInt64)]) (st := []) lv_X10_26 (k_X10_put t (by omega)) dX10_read_130 t.1 rfl rfl (Nat.le_of_ble_eq_true rfl) ⟨by decide, by decide⟩ ⟨by decide, by decide⟩ (fun v9 hp3 q => ?_) (fun _ _ _ _ _ q => by cases q.1)
                obtain ⟨ev, wp3a, tp3⟩ := q
                cases ev
                have wp3 := w1.tr wp3a
                refine x_aload_n dX10_read_133 rfl ?_
                refine x_get lf_X10_9 dX10_read_134 tp3.1 rfl ?_
                refine x_aload_n dX10_read_137 rfl ?_
                refine x_get lf_X10_22 dX10_read_138 tp3.1 rfl ?_
                refine x_iconst (v := 1) dX10_read_141 (by decide) ?_
                refine x_isub dX10_read_142 ?_
                refine x_top (y := nI ((ts + 1) - 1)) (pk_sub (a := ts + 1) (b := 1) (by omega)) ?_
                refine x_ialdN (j := (ts + 1) - 1) tp3.2.1 rfl (by omega) (by decide) dX10_read_143 ?_
                refine x_top (y := nI (tyB (b i))) upd_at9 ?_
                refine x_iconst (v := 1) dX10_read_144 (by decide) ?_
                refine x_icmp_ne 149 dX10_read_145 (by decide) (fun c_145 => ?_) (fun c_145 => ?_)
                · rw [show (1 : Int32) = nI 1 from rfl, nI_eq (by omega) (by omega)] at c_145
                  refine x_iinc (v := nI (i + 1)) [(0, .ref 182), (1, .ref 2), (2, .int (nI n)), (3, .int 0), (4, .int (nI (i + 1))), (5, .int (nI (b i)))] dX10_read_149 rfl (nI_add i 1) (by decide) rfl rfl ?_
                  refine x_goto 10 dX10_read_152 (by decide) ?_
                  exact x_ls _ [0, 1, 2, 3, 4] rfl (ih (i + 1) 0 _ _ _ _ _ (by omega) (by omega) (Or.inl ⟨rfl, tk_one hcl (by omega) hbi.2 (by unfold isL; omega) (by unfold isB; omega) c_145⟩) wp3 ⟨tp3.1, tp3.2.1, tp3.2.2.1, tp3.2.2.2⟩)
                · rw [show (1 : Int32) = nI 1 from rfl, nI_eq (by omega) (by omega)] at c_145
                  exact x_vret dX10_read_148 rfl (Nat.le_refl _) (Nat.le_refl _) ⟨rfl, wp3, _, _, _, _, ⟨tp3.1, tp3.2.1, tp3.2.2.1, tp3.2.2.2⟩, tk_bad hcl hn (by omega) (by unfold isL; omega) (by unfold isB; omega) c_145⟩
          · rw [show (122 : Int32) = nI 122 from rfl, nI_ltI (by omega) (by omega)] at c_41
            refine x_iload_n dX10_read_44 rfl ?_
            refine x_if_ne 56 dX10_read_45 (by decide) (fun c_45 => ?_) (fun c_45 => ?_)
            · rw [show (0 : Int32) = nI 0 from rfl, nI_eq (by omega) (by omega)] at c_45
              refine x_iload_n dX10_read_56 rfl ?_
              refine x_bipush (v := 8) dX10_read_57 (by decide) ?_
              refine x_icmp_lt 75 dX10_read_59 (by decide) (fun c_59 => ?_) (fun c_59 => ?_)
              · rw [show (8 : Int32) = nI 8 from rfl, nI_ltI (by omega) (by omega)] at c_59
                have ht1 := tkPos hinv c_45
                refine x_aload_n dX10_read_75 rfl ?_
                refine x_get lf_X10_18 dX10_read_76 t.1 rfl ?_
                refine x_aload_n dX10_read_79 rfl ?_
                refine x_get lf_X10_22 dX10_read_80 t.1 rfl ?_
                refine x_iconst (v := 1) dX10_read_83 (by decide) ?_
                refine x_isub dX10_read_84 ?_
                refine x_top (y := nI (ts - 1)) (pk_sub (a := ts) (b := 1) (by omega)) ?_
                refine x_dup2 dX10_read_85 rfl rfl ?_
                refine x_laldN (j := ts - 1) t.2.2.2 rfl (by omega) (by decide) dX10_read_86 ?_
                refine x_iload dX10_read_87 rfl ?_
                refine x_i2l dX10_read_89 ?_
                refine x_bipush (v := 8) dX10_read_90 (by decide) ?_
                refine x_iload_n dX10_read_92 rfl ?_
                refine x_imul dX10_read_93 ?_
                refine x_top (y := nI (8 * lt)) (pk_mul 8 lt) ?_
                refine x_lshl dX10_read_94 ?_
                refine x_lor dX10_read_95 ?_
                refine x_lastN (j := ts - 1) t.2.2.2 rfl (by omega) (by decide) dX10_read_96 ?_
                refine x_iinc (v := nI (lt + 1)) [(0, .ref 182), (1, .ref 2), (2, .int (nI n)), (3, .int (nI (lt + 1))), (4, .int (nI i)), (5, .int (nI (b i)))] dX10_read_97 rfl (nI_add lt 1) (by decide) rfl rfl ?_
                refine x_goto 149 dX10_read_100 (by decide) ?_
                refine x_iinc (v := nI (i + 1)) [(0, .ref 182), (1, .ref 2), (2, .int (nI n)), (3, .int (nI (lt + 1))), (4, .int (nI (i + 1))), (5, .int (nI (b i)))] dX10_read_149 rfl (nI_add i 1) (by decide) rfl rfl ?_
                refine x_goto 10 dX10_read_152 (by decide) ?_
                exact x_ls _ [0, 1, 2, 3, 4] rfl (ih (i + 1) (lt + 1) _ _ _ _ _ (by omega) (by omega) (tkMore hinv c_45 (by omega) (by omega) (by unfold isL; omega)) (w1.up (by decide)) ⟨((xup_ne (by decide)).trans t.1), ((xup_ne (by decide)).trans t.2.1), ((xup_ne (by decide)).trans t.2.2.1), (xup_self _ _ _)⟩)
              · rw [show (8 : Int32) = nI 8 from rfl, nI_ltI (by omega) (by omega)] at c_59
                have ht1 := tkPos hinv c_45
                refine x_aload_n dX10_read_62 rfl ?_
                refine x_get lf_X10_9 dX10_read_63 t.1 rfl ?_
                refine x_aload_n dX10_read_66 rfl ?_
                refine x_get lf_X10_22 dX10_read_67 t.1 rfl ?_
                refine x_iconst (v := 1) dX10_read_70 (by decide) ?_
                refine x_isub dX10_read_71 ?_
                refine x_top (y := nI (ts - 1)) (pk_sub (a := ts) (b := 1) (by omega)) ?_
                refine x_iconst (v := 1) dX10_read_72 (by decide) ?_
                refine x_iastN (j := ts - 1) t.2.1 rfl (by omega) (by decide) dX10_read_73 ?_
                exact x_vret dX10_read_74 rfl (Nat.le_refl _) (Nat.le_refl _) ⟨rfl, (w1.up (by decide)), _, _, _, _, ⟨((xup_ne (by decide)).trans t.1), (xup_self _ _ _), ((xup_ne (by decide)).trans t.2.2.1), ((xup_ne (by decide)).trans t.2.2.2)⟩, tkNine hinv hn (by omega) (by omega) (by unfold isL; omega)⟩
            · rw [show (0 : Int32) = nI 0 from rfl, nI_eq (by omega) (by omega)] at c_45
              refine x_aload_n dX10_read_48 rfl ?_
              refine x_iconst (v := 2) dX10_read_49 (by decide) ?_
              refine x_iload dX10_read_50 rfl ?_
              refine x_lconst (v := 0) dX10_read_52 (by decide) ?_
              refine x_callV (As := [.int 2, .int (nI i), .long 0]) (st := []) lv_X10_26 (k_X10_put t (by omega)) dX10_read_53 t.1 rfl rfl (Nat.le_of_ble_eq_true rfl) ⟨by decide, by decide⟩ ⟨by decide, by decide⟩ (fun v9 hp4 q => ?_) (fun _ _ _ _ _ q => by cases q.1)
              obtain ⟨ev, wp4a, tp4⟩ := q
              cases ev
              have wp4 := w1.tr wp4a
              refine x_iload_n dX10_read_56 rfl ?_
              refine x_bipush (v := 8) dX10_read_57 (by decide) ?_
              refine x_icmp_lt 75 dX10_read_59 (by decide) (fun c_59 => ?_) (fun c_59 => ?_)
              · rw [show (8 : Int32) = nI 8 from rfl, nI_ltI (by omega) (by omega)] at c_59
                refine x_aload_n dX10_read_75 rfl ?_
                refine x_get lf_X10_18 dX10_read_76 tp4.1 rfl ?_
                refine x_aload_n dX10_read_79 rfl ?_
                refine x_get lf_X10_22 dX10_read_80 tp4.1 rfl ?_
                refine x_iconst (v := 1) dX10_read_83 (by decide) ?_
                refine x_isub dX10_read_84 ?_
                refine x_top (y := nI ((ts + 1) - 1)) (pk_sub (a := ts + 1) (b := 1) (by omega)) ?_
                refine x_dup2 dX10_read_85 rfl rfl ?_
                refine x_laldN (j := (ts + 1) - 1) tp4.2.2.2 rfl (by omega) (by decide) dX10_read_86 ?_
                refine x_iload dX10_read_87 rfl ?_
                refine x_i2l dX10_read_89 ?_
                refine x_bipush (v := 8) dX10_read_90 (by decide) ?_
                refine x_iload_n dX10_read_92 rfl ?_
                refine x_imul dX10_read_93 ?_
                refine x_top (y := nI (8 * lt)) (pk_mul 8 lt) ?_
                refine x_lshl dX10_read_94 ?_
                refine x_lor dX10_read_95 ?_
                refine x_lastN (j := (ts + 1) - 1) tp4.2.2.2 rfl (by omega) (by decide) dX10_read_96 ?_
                refine x_iinc (v := nI (lt + 1)) [(0, .ref 182), (1, .ref 2), (2, .int (nI n)), (3, .int (nI (lt + 1))), (4, .int (nI i)), (5, .int (nI (b i)))] dX10_read_97 rfl (nI_add lt 1) (by decide) rfl rfl ?_
                refine x_goto 149 dX10_read_100 (by decide) ?_
                refine x_iinc (v := nI (i + 1)) [(0, .ref 182), (1, .ref 2), (2, .int (nI n)), (3, .int (nI (lt + 1))), (4, .int (nI (i + 1))), (5, .int (nI (b i)))] dX10_read_149 rfl (nI_add i 1) (by decide) rfl rfl ?_
                refine x_goto 10 dX10_read_152 (by decide) ?_
                exact x_ls _ [0, 1, 2, 3, 4] rfl (ih (i + 1) (lt + 1) _ _ _ _ _ (by omega) (by omega) (Or.inr ⟨ts, rfl, tkFirst hinv c_45 (by omega) (by unfold isL; omega)⟩) (wp4.up (by decide)) ⟨((xup_ne (by decide)).trans tp4.1), ((xup_ne (by decide)).trans tp4.2.1), ((xup_ne (by decide)).trans tp4.2.2.1), (xup_self _ _ _)⟩)
              · rw [show (8 : Int32) = nI 8 from rfl, nI_ltI (by omega) (by omega)] at c_59
                refine x_aload_n dX10_read_62 rfl ?_
                refine x_get lf_X10_9 dX10_read_63 tp4.1 rfl ?_
                refine x_aload_n dX10_read_66 rfl ?_
                refine x_get lf_X10_22 dX10_read_67 tp4.1 rfl ?_
                refine x_iconst (v := 1) dX10_read_70 (by decide) ?_
                refine x_isub dX10_read_71 ?_
                refine x_top (y := nI ((ts + 1) - 1)) (pk_sub (a := ts + 1) (b := 1) (by omega)) ?_
                refine x_iconst (v := 1) dX10_read_72 (by decide) ?_
                refine x_iastN (j := (ts + 1) - 1) tp4.2.1 rfl (by omega) (by decide) dX10_read_73 ?_
                exfalso
                omega
set_option maxRecDepth 100000 in
set_option maxHeartbeats 4000000 in
theorem k_X10_read {G : xG} {h : xHp} {tp : Nat → Int32} {b : Nat → Nat} {n : Nat} (htp : h.1 2 = some (.inl (0, 400, .inl tp))) (hn : n ≤ 400) (hb : ∀ k, k < n → tp k = nI (b k) ∧ b k < 256) {ts : Nat} {ty st : Nat → Int32} {wd : Nat → Int64} (t : tokH h ts ty st wd) : MX G mX10_read 2 0 0 [.ref 182, .ref 2, .int (nI n)] h (fun o h' => o = .inl none ∧ xfr h h' tL ∧ ∃ ts ty st wd, tokH h' ts ty st wd ∧ tkF b n ts ty st wd) := by
  refine MX.of [(0, .ref 182), (1, .ref 2), (2, .int (nI n))] (by decide) rfl (Nat.le_of_ble_eq_true rfl) rfl ?_
  refine x_aload_n dX10_read_0 rfl ?_
  refine x_iconst (v := 0) dX10_read_1 (by decide) ?_
  refine x_put [.ref 183, .ref 184, .ref 185, .int 0] lf_X10_22 dX10_read_2 t.1 (Nat.le_of_ble_eq_true rfl) rfl rfl rfl ?_
  refine x_iconst (v := 0) dX10_read_5 (by decide) ?_
  refine x_istore_n [(0, .ref 182), (1, .ref 2), (2, .int (nI n)), (3, .int 0)] dX10_read_6 (by decide) rfl rfl ?_
  refine x_iconst (v := 0) dX10_read_7 (by decide) ?_
  refine x_istore [(0, .ref 182), (1, .ref 2), (2, .int (nI n)), (3, .int 0), (4, .int 0)] dX10_read_8 (by decide) rfl rfl ?_
  exact l_X10_read htp hn hb (n + 1) 0 0 0 ty st wd _ (by omega) (by omega) (Or.inl ⟨rfl, tk_0 b n ty st wd⟩) ((xfr_rf _ _).up (by simp)) ⟨(xup_self _ _ _), ((xup_ne (by decide)).trans t.2.1), ((xup_ne (by decide)).trans t.2.2.1), ((xup_ne (by decide)).trans t.2.2.2)⟩
