/-! RuleCourtModel$Stop: its constructor and those of the JDK that it calls -/
section XS
variable {G : xG} {M : xM} {R : Room} {F : List Frame → Array Value → State → State → Prop} {uc us pc : Nat} {ls : List (Nat × Value)} {st : List Value} {h : xHp}
theorem x_aloadN {n : Fin 4} (hd : decode M.2.1 pc = .ok (.aload_n n, 1)) (hk : xget ls (n : Nat) = some .null) (k : Wx G M R F uc us (pc + 1) ls (.null :: st) h) : Wx G M R F uc us pc ls st h := fun p e s m args below meth c H locs lsA hC hR hL hl => lv_aload_nN hC.1 hC.2.1 hd rfl (xl_at hl hk) (k p e s m args below meth c H locs lsA hC hR hL hl)
theorem x_gets {i : Nat} {nm ds : String} (hsel : (nm = "UNASSIGNED_STACK" ∧ ds = Bundle.steD) ∨ (nm = "SUPPRESSED_SENTINEL" ∧ ds = Bundle.listD)) (hw : Cond.fieldLink M.1.cls i Bundle.tN nm ds ∈ lw_tbl) (hd : decode M.2.1 pc = .ok (.getstatic i, 3)) (kk : ∀ v : Value, (v = .null ∨ ∃ t, v = .retAddr t) → Wx G M R F uc us (pc + 3) ls (v :: st) h) : Wx G M R F uc us pc ls st h := by
  intro p e s m args below meth c H locs lsA hC hR hL hl
  have kk := fun v hv => kk v hv p e s m args below meth c H locs lsA hC hR hL hl
  obtain ⟨hx, hb, hml, hown, hr, hlo, hnme, htab, hK, hT, hX, ⟨hB1, hB2, hB3⟩, hZ1, hZ2, hZ3⟩ := hC
  have hz : va_Zq Bundle.tN nm ds (fun q => xB G ≤ q) s (xH0 G) := by
    rcases hsel with ⟨rfl, rfl⟩ | ⟨rfl, rfl⟩
    · exact hZ1.1
    · exact hZ2.1
  have key : ∀ v : Value, (v = .null ∨ ∃ t, v = .retAddr t) → va_Z Bundle.tN nm ds (xv G v) (fun q => xB G ≤ q) s (xH0 G) → W p G.1 e R s m args below meth c H locs uc us (F below args s) (F0 m pc lsA (st.map (xv G))) := by
    intro v hv hz
    obtain ⟨cf, kf, fi, f, a, cell, h1, h2, h3, h4, h5, h6, h7, h8⟩ := hz
    exact W.gets hx hb hown (hT.use hw rfl args) h1 h2 h3 h4 (by rw [hR.2.2.1 a (by omega)]; exact h5) (fun e => by rw [e] at h6; cases h6) h7 rfl hd (kk v hv)
  rcases hz with hz | ⟨t, hz⟩
  · exact key .null (Or.inl rfl) hz
  · exact key (.retAddr t) (Or.inr ⟨t, rfl⟩) hz
end XS
abbrev RJR : String := "java/lang/RuntimeException"
abbrev yJR_i4 : MethodName := ⟨RJR, "<init>", "(Ljava/lang/String;Ljava/lang/Throwable;ZZ)V"⟩
abbrev mJR_i4 : xM := (yJR_i4, prog_20_method_5_code, 5, none, [])
abbrev RJE : String := "java/lang/Exception"
abbrev yJE_i4 : MethodName := ⟨RJE, "<init>", "(Ljava/lang/String;Ljava/lang/Throwable;ZZ)V"⟩
abbrev mJE_i4 : xM := (yJE_i4, prog_17_method_5_code, 5, none, [])
abbrev RJT : String := "java/lang/Throwable"
abbrev yJT_i4 : MethodName := ⟨RJT, "<init>", "(Ljava/lang/String;Ljava/lang/Throwable;ZZ)V"⟩
abbrev mJT_i4 : xM := (yJT_i4, prog_23_method_5_code, 5, none, [])
theorem dJR_i4_0 : decode prog_20_method_5_code 0 = .ok (.aload_n 0, 1) := by decide +kernel
theorem dJR_i4_1 : decode prog_20_method_5_code 1 = .ok (.aload_n 1, 1) := by decide +kernel
theorem dJR_i4_2 : decode prog_20_method_5_code 2 = .ok (.aload_n 2, 1) := by decide +kernel
theorem dJR_i4_3 : decode prog_20_method_5_code 3 = .ok (.iload_n 3, 1) := by decide +kernel
theorem dJR_i4_4 : decode prog_20_method_5_code 4 = .ok (.iload 4, 2) := by decide +kernel
theorem dJR_i4_6 : decode prog_20_method_5_code 6 = .ok (.invokespecial 16, 3) := by decide +kernel
theorem dJR_i4_9 : decode prog_20_method_5_code 9 = .ok (.return_, 1) := by decide +kernel
theorem dJE_i4_0 : decode prog_17_method_5_code 0 = .ok (.aload_n 0, 1) := by decide +kernel
theorem dJE_i4_1 : decode prog_17_method_5_code 1 = .ok (.aload_n 1, 1) := by decide +kernel
theorem dJE_i4_2 : decode prog_17_method_5_code 2 = .ok (.aload_n 2, 1) := by decide +kernel
theorem dJE_i4_3 : decode prog_17_method_5_code 3 = .ok (.iload_n 3, 1) := by decide +kernel
theorem dJE_i4_4 : decode prog_17_method_5_code 4 = .ok (.iload 4, 2) := by decide +kernel
theorem dJE_i4_6 : decode prog_17_method_5_code 6 = .ok (.invokespecial 16, 3) := by decide +kernel
theorem dJE_i4_9 : decode prog_17_method_5_code 9 = .ok (.return_, 1) := by decide +kernel
theorem dJT_i4_0 : decode prog_23_method_5_code 0 = .ok (.aload_n 0, 1) := by decide +kernel
theorem dJT_i4_1 : decode prog_23_method_5_code 1 = .ok (.invokespecial 1, 3) := by decide +kernel
theorem dJT_i4_4 : decode prog_23_method_5_code 4 = .ok (.aload_n 0, 1) := by decide +kernel
theorem dJT_i4_5 : decode prog_23_method_5_code 5 = .ok (.aload_n 0, 1) := by decide +kernel
theorem dJT_i4_6 : decode prog_23_method_5_code 6 = .ok (.putfield 7, 3) := by decide +kernel
theorem dJT_i4_9 : decode prog_23_method_5_code 9 = .ok (.aload_n 0, 1) := by decide +kernel
theorem dJT_i4_10 : decode prog_23_method_5_code 10 = .ok (.getstatic 13, 3) := by decide +kernel
theorem dJT_i4_13 : decode prog_23_method_5_code 13 = .ok (.putfield 17, 3) := by decide +kernel
theorem dJT_i4_16 : decode prog_23_method_5_code 16 = .ok (.aload_n 0, 1) := by decide +kernel
theorem dJT_i4_17 : decode prog_23_method_5_code 17 = .ok (.getstatic 20, 3) := by decide +kernel
theorem dJT_i4_20 : decode prog_23_method_5_code 20 = .ok (.putfield 24, 3) := by decide +kernel
theorem dJT_i4_23 : decode prog_23_method_5_code 23 = .ok (.iload 4, 2) := by decide +kernel
theorem dJT_i4_25 : decode prog_23_method_5_code 25 = .ok (.ifCond .eq 11, 3) := by decide +kernel
theorem dJT_i4_28 : decode prog_23_method_5_code 28 = .ok (.aload_n 0, 1) := by decide +kernel
theorem dJT_i4_29 : decode prog_23_method_5_code 29 = .ok (.invokevirtual 27, 3) := by decide +kernel
theorem dJT_i4_32 : decode prog_23_method_5_code 32 = .ok (.pop, 1) := by decide +kernel
theorem dJT_i4_33 : decode prog_23_method_5_code 33 = .ok (.goto 8, 3) := by decide +kernel
theorem dJT_i4_36 : decode prog_23_method_5_code 36 = .ok (.aload_n 0, 1) := by decide +kernel
theorem dJT_i4_37 : decode prog_23_method_5_code 37 = .ok (.aconst_null, 1) := by decide +kernel
theorem dJT_i4_38 : decode prog_23_method_5_code 38 = .ok (.putfield 17, 3) := by decide +kernel
theorem dJT_i4_41 : decode prog_23_method_5_code 41 = .ok (.aload_n 0, 1) := by decide +kernel
theorem dJT_i4_42 : decode prog_23_method_5_code 42 = .ok (.aload_n 1, 1) := by decide +kernel
theorem dJT_i4_43 : decode prog_23_method_5_code 43 = .ok (.putfield 31, 3) := by decide +kernel
theorem dJT_i4_46 : decode prog_23_method_5_code 46 = .ok (.aload_n 0, 1) := by decide +kernel
theorem dJT_i4_47 : decode prog_23_method_5_code 47 = .ok (.aload_n 2, 1) := by decide +kernel
theorem dJT_i4_48 : decode prog_23_method_5_code 48 = .ok (.putfield 7, 3) := by decide +kernel
theorem dJT_i4_51 : decode prog_23_method_5_code 51 = .ok (.iload_n 3, 1) := by decide +kernel
theorem dJT_i4_52 : decode prog_23_method_5_code 52 = .ok (.ifCond .ne 8, 3) := by decide +kernel
theorem dJT_i4_55 : decode prog_23_method_5_code 55 = .ok (.aload_n 0, 1) := by decide +kernel
theorem dJT_i4_56 : decode prog_23_method_5_code 56 = .ok (.aconst_null, 1) := by decide +kernel
theorem dJT_i4_57 : decode prog_23_method_5_code 57 = .ok (.putfield 24, 3) := by decide +kernel
theorem dJT_i4_60 : decode prog_23_method_5_code 60 = .ok (.return_, 1) := by decide +kernel
theorem cw_JR : xCW mJR_i4 ∈ lw_tbl := xm4 206 rfl
theorem cw_JE : xCW mJE_i4 ∈ lw_tbl := xm4 209 rfl
theorem cw_JT : xCW mJT_i4 ∈ lw_tbl := xm4 212 rfl
theorem li_X13_1 : xLI RX13 1 4 mJR_i4 := ⟨rfl, rfl, rfl, Or.inl (xm4 204 rfl), xm4 205 rfl, cw_JR, xm1 16 rfl, ⟨by decide +kernel, by decide +kernel⟩, by decide +kernel⟩
theorem li_JR_16 : xLI RJR 16 4 mJE_i4 := ⟨rfl, rfl, rfl, Or.inl (xm4 207 rfl), xm4 208 rfl, cw_JE, xm1 15 rfl, ⟨by decide +kernel, by decide +kernel⟩, by decide +kernel⟩
theorem li_JE_16 : xLI RJE 16 4 mJT_i4 := ⟨rfl, rfl, rfl, Or.inl (xm4 210 rfl), xm4 211 rfl, cw_JT, xm1 14 rfl, ⟨by decide +kernel, by decide +kernel⟩, by decide +kernel⟩
theorem ml_JT_1 : Cond.methodLink RJT 1 objectInit ∈ lw_tbl := xm4 142 rfl
theorem lf_JT_7 : xLF RJT 7 13 0 (tyX13 0) false RJT := ⟨_, _, _, _, xc13, by decide, tyX13_ok 0 (by decide), rfl, rfl, Or.inl (xm4 172 rfl)⟩
theorem lf_JT_17 : xLF RJT 17 13 1 (tyX13 1) false RJT := ⟨_, _, _, _, xc13, by decide, tyX13_ok 1 (by decide), rfl, rfl, Or.inl (xm4 173 rfl)⟩
theorem lf_JT_24 : xLF RJT 24 13 2 (tyX13 2) false RJT := ⟨_, _, _, _, xc13, by decide, tyX13_ok 2 (by decide), rfl, rfl, Or.inl (xm4 174 rfl)⟩
theorem lf_JT_31 : xLF RJT 31 13 3 (tyX13 3) false RJT := ⟨_, _, _, _, xc13, by decide, tyX13_ok 3 (by decide), rfl, rfl, Or.inl (xm4 171 rfl)⟩
set_option maxRecDepth 100000 in
set_option maxHeartbeats 4000000 in
theorem k_JT {G : xG} {h : xHp} {a : Nat} (hc : h.1 a = some (.inr (13, [.null, .null, .null, .null, .null, .int 0, .int 0, .int 0]))) : MX G mJT_i4 2 0 0 [.ref a, .null, .null, .int 0, .int 0] h (xVoid h) := by
  refine MX.of [(0, .ref a), (1, .null), (2, .null), (3, .int 0), (4, .int 0)] (by decide) rfl (Nat.le_of_ble_eq_true rfl) rfl ?_
  refine x_aload_n dJT_i4_0 rfl ?_
  refine x_objInit ml_JT_1 oi_i oi_c dJT_i4_1 (Nat.le_of_ble_eq_true rfl) (Nat.le_of_ble_eq_true rfl) ?_
  refine x_aload_n dJT_i4_4 rfl ?_
  refine x_aload_n dJT_i4_5 rfl ?_
  refine x_put [.ref a, .null, .null, .null, .null, .int 0, .int 0, .int 0] lf_JT_7 dJT_i4_6 hc (Nat.le_of_ble_eq_true rfl) rfl rfl rfl ?_
  refine x_aload_n dJT_i4_9 rfl ?_
  refine x_gets (nm := "UNASSIGNED_STACK") (ds := Bundle.steD) (Or.inl ⟨rfl, rfl⟩) (xm4 143 rfl) dJT_i4_10 (fun z10 hz10 => ?_)
  refine x_put [.ref a, z10, .null, .null, .null, .int 0, .int 0, .int 0] lf_JT_17 dJT_i4_13 (xup_self _ _ _) (Nat.le_of_ble_eq_true rfl) (by rcases hz10 with rfl | ⟨t, rfl⟩ <;> rfl) (by rcases hz10 with rfl | ⟨t, rfl⟩ <;> rfl) rfl ?_
  refine x_aload_n dJT_i4_16 rfl ?_
  refine x_gets (nm := "SUPPRESSED_SENTINEL") (ds := Bundle.listD) (Or.inr ⟨rfl, rfl⟩) (xm4 145 rfl) dJT_i4_17 (fun z17 hz17 => ?_)
  refine x_put [.ref a, z10, z17, .null, .null, .int 0, .int 0, .int 0] lf_JT_24 dJT_i4_20 (xup_self _ _ _) (Nat.le_of_ble_eq_true rfl) (by rcases hz17 with rfl | ⟨t, rfl⟩ <;> rfl) (by rcases hz17 with rfl | ⟨t, rfl⟩ <;> rfl) rfl ?_
  refine x_iload dJT_i4_23 rfl ?_
  refine x_if_eq 36 dJT_i4_25 (by decide) (fun _ => ?_) (fun c => absurd c (by decide))
  refine x_aload_n dJT_i4_36 rfl ?_
  refine x_null dJT_i4_37 ?_
  refine x_put [.ref a, .null, z17, .null, .null, .int 0, .int 0, .int 0] lf_JT_17 dJT_i4_38 (xup_self _ _ _) (Nat.le_of_ble_eq_true rfl) rfl rfl rfl ?_
  refine x_aload_n dJT_i4_41 rfl ?_
  refine x_aloadN dJT_i4_42 rfl ?_
  refine x_put [.ref a, .null, z17, .null, .null, .int 0, .int 0, .int 0] lf_JT_31 dJT_i4_43 (xup_self _ _ _) (Nat.le_of_ble_eq_true rfl) rfl rfl rfl ?_
  refine x_aload_n dJT_i4_46 rfl ?_
  refine x_aloadN dJT_i4_47 rfl ?_
  refine x_put [.null, .null, z17, .null, .null, .int 0, .int 0, .int 0] lf_JT_7 dJT_i4_48 (xup_self _ _ _) (Nat.le_of_ble_eq_true rfl) rfl rfl rfl ?_
  refine x_iload_n dJT_i4_51 rfl ?_
  refine x_if_ne 60 dJT_i4_52 (by decide) (fun c => absurd c (by decide)) (fun _ => ?_)
  refine x_aload_n dJT_i4_55 rfl ?_
  refine x_null dJT_i4_56 ?_
  refine x_put [.null, .null, .null, .null, .null, .int 0, .int 0, .int 0] lf_JT_24 dJT_i4_57 (xup_self _ _ _) (Nat.le_of_ble_eq_true rfl) rfl rfl rfl ?_
  rw [xup_up, xup_up, xup_up, xup_up, xup_up, xup_up]
  exact x_vret dJT_i4_60 rfl (Nat.le_refl _) (Nat.le_refl _) ⟨rfl, xup_id hc⟩
set_option maxRecDepth 100000 in
set_option maxHeartbeats 4000000 in
theorem k_JE {G : xG} {h : xHp} {a : Nat} (hc : h.1 a = some (.inr (13, [.null, .null, .null, .null, .null, .int 0, .int 0, .int 0]))) : MX G mJE_i4 3 0 0 [.ref a, .null, .null, .int 0, .int 0] h (xVoid h) := by
  refine MX.of [(0, .ref a), (1, .null), (2, .null), (3, .int 0), (4, .int 0)] (by decide) rfl (Nat.le_of_ble_eq_true rfl) rfl ?_
  refine x_aload_n dJE_i4_0 rfl ?_
  refine x_aloadN dJE_i4_1 rfl ?_
  refine x_aloadN dJE_i4_2 rfl ?_
  refine x_iload_n dJE_i4_3 rfl ?_
  refine x_iload dJE_i4_4 rfl ?_
  refine x_callI (As := [.null, .null, .int 0, .int 0]) (st := []) li_JE_16 (k_JT hc) (fun _ _ q => by cases q.1) dJE_i4_6 rfl rfl (Nat.le_of_ble_eq_true rfl) ⟨by decide, by decide⟩ ⟨by decide, by decide⟩ (fun v hq9 q => ?_)
  obtain ⟨ev, eh⟩ := q
  rw [eh]
  cases ev
  exact x_vret dJE_i4_9 rfl (Nat.le_refl _) (Nat.le_refl _) ⟨rfl, rfl⟩
set_option maxRecDepth 100000 in
set_option maxHeartbeats 4000000 in
theorem k_JR {G : xG} {h : xHp} {a : Nat} (hc : h.1 a = some (.inr (13, [.null, .null, .null, .null, .null, .int 0, .int 0, .int 0]))) : MX G mJR_i4 4 0 0 [.ref a, .null, .null, .int 0, .int 0] h (xVoid h) := by
  refine MX.of [(0, .ref a), (1, .null), (2, .null), (3, .int 0), (4, .int 0)] (by decide) rfl (Nat.le_of_ble_eq_true rfl) rfl ?_
  refine x_aload_n dJR_i4_0 rfl ?_
  refine x_aloadN dJR_i4_1 rfl ?_
  refine x_aloadN dJR_i4_2 rfl ?_
  refine x_iload_n dJR_i4_3 rfl ?_
  refine x_iload dJR_i4_4 rfl ?_
  refine x_callI (As := [.null, .null, .int 0, .int 0]) (st := []) li_JR_16 (k_JE hc) (fun _ _ q => by cases q.1) dJR_i4_6 rfl rfl (Nat.le_of_ble_eq_true rfl) ⟨by decide, by decide⟩ ⟨by decide, by decide⟩ (fun v hq9 q => ?_)
  obtain ⟨ev, eh⟩ := q
  rw [eh]
  cases ev
  exact x_vret dJR_i4_9 rfl (Nat.le_refl _) (Nat.le_refl _) ⟨rfl, rfl⟩
set_option maxRecDepth 100000 in
set_option maxHeartbeats 4000000 in
theorem k_X13_init {G : xG} {h : xHp} {a : Nat} (hc : h.1 a = some (.inr (13, [.null, .null, .null, .null, .null, .int 0, .int 0, .int 0]))) : MX G mX13_init 5 0 0 [.ref a] h (xVoid h) := by
  refine MX.of [(0, .ref a)] (by decide) rfl (Nat.le_of_ble_eq_true rfl) rfl ?_
  refine x_aload_n dX13_init_0 rfl ?_
  refine x_null dX13_init_1 ?_
  refine x_null dX13_init_2 ?_
  refine x_iconst (v := 0) dX13_init_3 (by decide) ?_
  refine x_iconst (v := 0) dX13_init_4 (by decide) ?_
  refine x_callI (As := [.null, .null, .int 0, .int 0]) (st := []) li_X13_1 (k_JR hc) (fun _ _ q => by cases q.1) dX13_init_5 rfl rfl (Nat.le_of_ble_eq_true rfl) ⟨by decide, by decide⟩ ⟨by decide, by decide⟩ (fun v hq9 q => ?_)
  obtain ⟨ev, eh⟩ := q
  rw [eh]
  cases ev
  exact x_vret dX13_init_8 rfl (Nat.le_refl _) (Nat.le_refl _) ⟨rfl, rfl⟩
