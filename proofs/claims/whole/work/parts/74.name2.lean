/-! RuleCourt: name -/
set_option maxRecDepth 100000 in
set_option maxHeartbeats 4000000 in
theorem k_X11_name {G : xG} {h : xHp} {tsz : Nat} {tp : Nat → Int32} {rc : Nat} {fc : Int32} {nt : Nat} {nk : Nat} {lf : Nat → Int32} {ra : Nat → Nat} {V : Nat → RV} {kw : Nat → Int64} {tw : Nat → Int64} {pf : Nat → Int32} {fr : Nat → Int32} {cl : Int32} {flt : Int32} {plc : Int32} {ns : Bool} {f : Nat → Int32} {g : Nat → Int32} {cn : Nat} {ct : Nat → Int32} {rn : Nat} {rs : Nat → Int32} {tr : Int32} (x : XH h tsz tp rc fc nt nk lf ra V kw tw pf fr cl flt plc ns f g cn ct rn rs tr) {k i : Int32} {b : Bool} (hnk : nk ≤ 10) (hnt : nt ≤ 10) : MX G mX11_name 6 1 6 [.ref 1, .int k, .int i, .int (bi b)] h (fun o h' => ((nm_letter (if b = true then kw else tw) (if b = true then nk else nt) k i) = -1 ∧ o = .inr h.2 ∧ h' = xnw h (.inr (15, []))) ∨ (¬ (nm_letter (if b = true then kw else tw) (if b = true then nk else nt) k i) = -1 ∧ o = .inl (some (.int (nm_letter (if b = true then kw else tw) (if b = true then nk else nt) k i))) ∧ h' = h)) := by
  refine MX.of [(0, .ref 1), (1, .int k), (2, .int i), (3, .int (bi b))] (by decide) rfl (Nat.le_of_ble_eq_true rfl) rfl ?_
  refine x_iload_n dX11_name_0 rfl ?_
  refine x_if_eq 19 dX11_name_1 (by decide) (fun c_1 => ?_) (fun c_1 => ?_)
  · have c_1 := bi_f c_1
    refine x_aload_n dX11_name_19 rfl ?_
    refine x_get lf_X11_16 dX11_name_20 x.c rfl ?_
    refine x_get lf_X11_111 dX11_name_23 x.b.1.1 rfl ?_
    refine x_iload_n dX11_name_26 rfl ?_
    refine x_iload_n dX11_name_27 rfl ?_
    refine x_callV (As := [.int k, .int i]) (st := []) lv_X11_120 (k_X6_letter x.b.1.2.2.1 x.b.2.2.1 hnt) dX11_name_28 x.b.1.2.2.1 rfl rfl (Nat.le_of_ble_eq_true rfl) ⟨by decide, by decide⟩ ⟨by decide, by decide⟩ (fun v9 h1 z => ?_) (fun _ _ _ _ _ z => by cases z.1)
    obtain ⟨ev, eh⟩ := z
    rw [eh]
    cases ev
    refine x_istore [(0, .ref 1), (1, .int k), (2, .int i), (3, .int (bi b)), (4, .int (nm_letter tw nt k i))] dX11_name_31 (by decide) rfl rfl ?_
    refine x_iload dX11_name_33 rfl ?_
    refine x_iconst (v := (-1)) dX11_name_35 (by decide) ?_
    refine x_icmp_ne 49 dX11_name_36 (by decide) (fun c_36 => ?_) (fun c_36 => ?_)
    · refine x_iload dX11_name_49 rfl ?_
      refine x_iret dX11_name_51 rfl rfl (by decide) (by decide) (Or.inr ⟨?_, ?_, rfl⟩)
      · first | (rw [if_pos c_1, if_pos c_1]; exact c_36) | (rw [if_neg (by rw [c_1]; decide), if_neg (by rw [c_1]; decide)]; exact c_36)
      · first | rw [if_pos c_1, if_pos c_1] | rw [if_neg (by rw [c_1]; decide), if_neg (by rw [c_1]; decide)]
    · refine x_throwNS rfl rfl dX11_name_39 dX11_name_42 dX11_name_43 dX11_name_45 dX11_name_48 (by decide) (by decide) (by decide) (by decide) (by decide) (by decide) (Or.inl ⟨?_, rfl, rfl⟩)
      first | (rw [if_pos c_1, if_pos c_1]; exact c_36) | (rw [if_neg (by rw [c_1]; decide), if_neg (by rw [c_1]; decide)]; exact c_36)
  · have c_1 := bi_t c_1
    refine x_aload_n dX11_name_4 rfl ?_
    refine x_get lf_X11_16 dX11_name_5 x.c rfl ?_
    refine x_get lf_X11_101 dX11_name_8 x.b.1.1 rfl ?_
    refine x_iload_n dX11_name_11 rfl ?_
    refine x_iload_n dX11_name_12 rfl ?_
    refine x_callV (As := [.int k, .int i]) (st := []) lv_X11_120 (k_X6_letter x.b.1.2.1 x.b.2.1 hnk) dX11_name_13 x.b.1.2.1 rfl rfl (Nat.le_of_ble_eq_true rfl) ⟨by decide, by decide⟩ ⟨by decide, by decide⟩ (fun v9 h1 z => ?_) (fun _ _ _ _ _ z => by cases z.1)
    obtain ⟨ev, eh⟩ := z
    rw [eh]
    cases ev
    refine x_goto 31 dX11_name_16 (by decide) ?_
    refine x_istore [(0, .ref 1), (1, .int k), (2, .int i), (3, .int (bi b)), (4, .int (nm_letter kw nk k i))] dX11_name_31 (by decide) rfl rfl ?_
    refine x_iload dX11_name_33 rfl ?_
    refine x_iconst (v := (-1)) dX11_name_35 (by decide) ?_
    refine x_icmp_ne 49 dX11_name_36 (by decide) (fun c_36 => ?_) (fun c_36 => ?_)
    · refine x_iload dX11_name_49 rfl ?_
      refine x_iret dX11_name_51 rfl rfl (by decide) (by decide) (Or.inr ⟨?_, ?_, rfl⟩)
      · first | (rw [if_pos c_1, if_pos c_1]; exact c_36) | (rw [if_neg (by rw [c_1]; decide), if_neg (by rw [c_1]; decide)]; exact c_36)
      · first | rw [if_pos c_1, if_pos c_1] | rw [if_neg (by rw [c_1]; decide), if_neg (by rw [c_1]; decide)]
    · refine x_throwNS rfl rfl dX11_name_39 dX11_name_42 dX11_name_43 dX11_name_45 dX11_name_48 (by decide) (by decide) (by decide) (by decide) (by decide) (by decide) (Or.inl ⟨?_, rfl, rfl⟩)
      first | (rw [if_pos c_1, if_pos c_1]; exact c_36) | (rw [if_neg (by rw [c_1]; decide), if_neg (by rw [c_1]; decide)]; exact c_36)
