/-! the class's cells: what stays -/
def xKp (h h' : xHp) : Prop := h'.2 = h.2 ∧ ∀ q, 205 ≤ q → h'.1 q = h.1 q
theorem xKp_rf (h : xHp) : xKp h h := ⟨rfl, fun _ _ => rfl⟩
theorem xKp.tr {h h1 h2 : xHp} (a : xKp h h1) (b : xKp h1 h2) : xKp h h2 := ⟨b.1.trans a.1, fun q hq => (b.2 q hq).trans (a.2 q hq)⟩
theorem xKp.of {h h' : xHp} {L : List Nat} (f : xfr h h' L) (hL : ∀ q ∈ L, q < 205) : xKp h h' := ⟨f.1, fun q hq => f.2 q (fun z => absurd (hL q z) (by omega))⟩
theorem bkF.kp {h h' : xHp} {L : List Nat} {rc : Nat} {fc : Int32} {nt nk : Nat} {lf : Nat → Int32} {ra : Nat → Nat} {V : Nat → RV} {kw tw : Nat → Int64} {pf fr : Nat → Int32} (hb : bkF h rc fc nt nk lf ra V kw tw pf fr) (hf : xfr h h' L) (hL : ∀ q ∈ L, q < 3 ∨ 181 ≤ q) : bkF h' rc fc nt nk lf ra V kw tw pf fr := bkF_keep hb (fun q q1 q2 => hf.2 q (fun z => by have := hL q z; omega))
theorem rdH.kp {h h' : xHp} {L : List Nat} {cl flt plc : Int32} (x : rdH h cl flt plc) (hf : xfr h h' L) (hL : ∀ q ∈ L, q < 181 ∨ 187 ≤ q) : rdH h' cl flt plc := by
  obtain ⟨at9, fn, ts, ty, st, wd, fs, r1, r2, r3, r4, r5, r6⟩ := x
  have hno : ∀ q, 181 ≤ q → q < 187 → q ∉ L := fun q a b z => by have := hL q z; omega
  exact ⟨at9, fn, ts, ty, st, wd, fs, hf.at r1 (hno _ (by omega) (by omega)), hf.at r2 (hno _ (by omega) (by omega)), hf.at r3 (hno _ (by omega) (by omega)), hf.at r4 (hno _ (by omega) (by omega)), hf.at r5 (hno _ (by omega) (by omega)), hf.at r6 (hno _ (by omega) (by omega))⟩
theorem jnI_kp {h h' : xHp} {L : List Nat} (x : jnI h) (hf : xfr h h' L) (hL : ∀ q ∈ L, q < 187 ∨ 190 ≤ q) : jnI h' := by
  obtain ⟨m0, r0, aim0, rd0, wt0, en0, θ0, lθ, e1, e2, e3⟩ := x
  have hno : ∀ q, 187 ≤ q → q < 190 → q ∉ L := fun q a b z => by have := hL q z; omega
  exact ⟨m0, r0, aim0, rd0, wt0, en0, θ0, lθ, hf.at e1 (hno _ (by omega) (by omega)), hf.at e2 (hno _ (by omega) (by omega)), hf.at e3 (hno _ (by omega) (by omega))⟩
theorem jgG.kp {h h' : xHp} {L : List Nat} (x : jgG h) (hf : xfr h h' L) (hL : ∀ q ∈ L, q < 190 ∨ 192 ≤ q) : jgG h' := by
  obtain ⟨e1, rn, e2⟩ := x
  have hno : ∀ q, 190 ≤ q → q < 192 → q ∉ L := fun q a b z => by have := hL q z; omega
  exact ⟨hf.at e1 (hno _ (by omega) (by omega)), rn, hf.at e2 (hno _ (by omega) (by omega))⟩
theorem md_kp {h h' : xHp} {L : List Nat} {f g : Nat → Int32} (x : ∃ (c : Nat → Int32) (clk : Int32), mdAt h 192 193 194 195 true f g c clk) (hf : xfr h h' L) (hL : ∀ q ∈ L, q < 192 ∨ 196 ≤ q) : ∃ (c : Nat → Int32) (clk : Int32), mdAt h' 192 193 194 195 true f g c clk := by
  obtain ⟨c, clk, e1, e2, e3, e4⟩ := x
  have hno : ∀ q, 192 ≤ q → q < 196 → q ∉ L := fun q a b z => by have := hL q z; omega
  exact ⟨c, clk, hf.at e1 (hno _ (by omega) (by omega)), hf.at e2 (hno _ (by omega) (by omega)), hf.at e3 (hno _ (by omega) (by omega)), hf.at e4 (hno _ (by omega) (by omega))⟩
theorem spH.kp {h h' : xHp} {L : List Nat} (x : spH h) (hf : xfr h h' L) (hL : ∀ q ∈ L, q < 196 ∨ 200 ≤ q) : spH h' := by
  obtain ⟨f, g, c, clk, ⟨e1, e2, e3, e4⟩, e5⟩ := x
  have hno : ∀ q, 196 ≤ q → q < 200 → q ∉ L := fun q a b z => by have := hL q z; omega
  exact ⟨f, g, c, clk, ⟨hf.at e1 (hno _ (by omega) (by omega)), hf.at e2 (hno _ (by omega) (by omega)), hf.at e3 (hno _ (by omega) (by omega)), hf.at e4 (hno _ (by omega) (by omega))⟩, e5⟩
theorem ctH.kp {h h' : xHp} {L : List Nat} {cn : Nat} {ct : Nat → Int32} (x : ctH h cn ct) (hf : xfr h h' L) (hL : ∀ q ∈ L, q < 200 ∨ 204 ≤ q) : ctH h' cn ct := by
  obtain ⟨gl, kb, cc, ca, pk, e1, e2, e3, e4⟩ := x
  have hno : ∀ q, 200 ≤ q → q < 204 → q ∉ L := fun q a b z => by have := hL q z; omega
  exact ⟨gl, kb, cc, ca, pk, hf.at e1 (hno _ (by omega) (by omega)), hf.at e2 (hno _ (by omega) (by omega)), hf.at e3 (hno _ (by omega) (by omega)), hf.at e4 (hno _ (by omega) (by omega))⟩
theorem sw4 (x : Int32) : x = 0 ∨ x = 1 ∨ x = 2 ∨ x = 3 ∨ (x.toInt < 0 ∨ 3 < x.toInt) := by
  have e0 : (0 : Int32).toInt = 0 := by decide
  have e1 : (1 : Int32).toInt = 1 := by decide
  have e2 : (2 : Int32).toInt = 2 := by decide
  have e3 : (3 : Int32).toInt = 3 := by decide
  rw [fa_eq x 0, fa_eq x 1, fa_eq x 2, fa_eq x 3, e0, e1, e2, e3]
  omega
theorem sw5 (x : Int32) : x = 0 ∨ x = 1 ∨ x = 2 ∨ x = 3 ∨ x = 4 ∨ (x.toInt < 0 ∨ 4 < x.toInt) := by
  have e0 : (0 : Int32).toInt = 0 := by decide
  have e1 : (1 : Int32).toInt = 1 := by decide
  have e2 : (2 : Int32).toInt = 2 := by decide
  have e3 : (3 : Int32).toInt = 3 := by decide
  have e4 : (4 : Int32).toInt = 4 := by decide
  rw [fa_eq x 0, fa_eq x 1, fa_eq x 2, fa_eq x 3, fa_eq x 4, e0, e1, e2, e3, e4]
  omega
theorem sw6 (x : Int32) : x = 0 ∨ x = 1 ∨ x = 2 ∨ x = 3 ∨ x = 4 ∨ x = 5 ∨ (x.toInt < 0 ∨ 5 < x.toInt) := by
  have e0 : (0 : Int32).toInt = 0 := by decide
  have e1 : (1 : Int32).toInt = 1 := by decide
  have e2 : (2 : Int32).toInt = 2 := by decide
  have e3 : (3 : Int32).toInt = 3 := by decide
  have e4 : (4 : Int32).toInt = 4 := by decide
  have e5 : (5 : Int32).toInt = 5 := by decide
  rw [fa_eq x 0, fa_eq x 1, fa_eq x 2, fa_eq x 3, fa_eq x 4, fa_eq x 5, e0, e1, e2, e3, e4, e5]
  omega
theorem nI_ge9 {a : Nat} (h : a < 400) : ¬ (400 : Int32) ≤ nI a := by
  rw [show (400 : Int32) = nI 400 from rfl, nI_leI (by omega) (by omega)]
  omega
/-- a number's byte j, from the highest -/
def byt (v : Int32) (j : Nat) : Int32 := if j = 0 then (v.toUInt32 >>> ((24 : Int32).toUInt32 &&& Int32.toUInt32 31)).toInt32 &&& 255 else if j = 1 then (v.toUInt32 >>> ((16 : Int32).toUInt32 &&& Int32.toUInt32 31)).toInt32 &&& 255 else if j = 2 then (v.toUInt32 >>> ((8 : Int32).toUInt32 &&& Int32.toUInt32 31)).toInt32 &&& 255 else (v.toUInt32 >>> ((0 : Int32).toUInt32 &&& Int32.toUInt32 31)).toInt32 &&& 255
def put4 (tp : Nat → Int32) (n : Nat) (v : Int32) : Nat → Int32 := upd (upd (upd (upd tp n (byt v 0)) (n + 1) (byt v 1)) (n + 2) (byt v 2)) (n + 3) (byt v 3)
set_option maxRecDepth 100000 in
set_option maxHeartbeats 4000000 in
theorem k_X11_putBytes {G : xG} {h : xHp} {tsz : Nat} {tp : Nat → Int32} {rc : Nat} {fc : Int32} {nt : Nat} {nk : Nat} {lf : Nat → Int32} {ra : Nat → Nat} {V : Nat → RV} {kw : Nat → Int64} {tw : Nat → Int64} {pf : Nat → Int32} {fr : Nat → Int32} {cl : Int32} {flt : Int32} {plc : Int32} {ns : Bool} {f : Nat → Int32} {g : Nat → Int32} {cn : Nat} {ct : Nat → Int32} {rn : Nat} {rs : Nat → Int32} {tr : Int32} (x : XH h tsz tp rc fc nt nk lf ra V kw tw pf fr cl flt plc ns f g cn ct rn rs tr) {v : Int32} (ht : tsz + 4 ≤ 400) : MX G mX11_putBytes 1 0 0 [.ref 1, .int v] h (fun o h' => o = .inl none ∧ xKp h h' ∧ XH h' (tsz + 4) (put4 tp tsz v) rc fc nt nk lf ra V kw tw pf fr cl flt plc ns f g cn ct rn rs tr) := by
  refine MX.of [(0, .ref 1), (1, .int v)] (by decide) rfl (Nat.le_of_ble_eq_true rfl) rfl ?_
  refine x_bipush (v := 24) dX11_putBytes_0 (by decide) ?_
  refine x_istore_n [(0, .ref 1), (1, .int v), (2, .int 24)] dX11_putBytes_2 (by decide) rfl rfl ?_
  refine x_iload_n dX11_putBytes_3 rfl ?_
  refine x_if_lt 49 dX11_putBytes_4 (by decide) (fun c => absurd c (by decide)) (fun _ => ?_)
  refine x_aload_n dX11_putBytes_7 rfl ?_
  refine x_get lf_X11_69 dX11_putBytes_8 x.c rfl ?_
  refine x_sipush (v := 400) dX11_putBytes_11 (by decide) ?_
  refine x_icmp_ge 49 dX11_putBytes_14 (by decide) (fun c_14 => absurd c_14 (nI_ge9 (show tsz < 400 by omega))) (fun c_14 => ?_)
  refine x_aload_n dX11_putBytes_17 rfl ?_
  refine x_get lf_X11_9 dX11_putBytes_18 x.c rfl ?_
  refine x_aload_n dX11_putBytes_21 rfl ?_
  refine x_get lf_X11_69 dX11_putBytes_22 x.c rfl ?_
  refine x_iload_n dX11_putBytes_25 rfl ?_
  refine x_iload_n dX11_putBytes_26 rfl ?_
  refine x_iushr dX11_putBytes_27 ?_
  refine x_sipush (v := 255) dX11_putBytes_28 (by decide) ?_
  refine x_iand dX11_putBytes_31 ?_
  refine x_iastN (j := tsz) x.t rfl (by omega) (by decide) dX11_putBytes_32 ?_
  refine x_aload_n dX11_putBytes_33 rfl ?_
  refine x_dup dX11_putBytes_34 rfl ?_
  refine x_get lf_X11_69 dX11_putBytes_35 ((xup_ne (by decide)).trans x.c) rfl ?_
  refine x_iconst (v := 1) dX11_putBytes_38 (by decide) ?_
  refine x_iadd dX11_putBytes_39 ?_
  refine x_top (y := nI (tsz + 1)) (nI_add tsz 1) ?_
  refine x_put [.ref 2, .int (nI (tsz + 1)), .ref 3, .ref 181, .ref 187, .ref 190, .ref 192, .int (bi ns), .ref 196, .ref 200, .ref 204, .int (nI rn), .int tr] lf_X11_69 dX11_putBytes_40 ((xup_ne (by decide)).trans x.c) (Nat.le_of_ble_eq_true rfl) rfl rfl rfl ?_
  refine x_iinc (v := 16) [(0, .ref 1), (1, .int v), (2, .int 16)] dX11_putBytes_43 rfl (by decide) (by decide) rfl rfl ?_
  refine x_goto 3 dX11_putBytes_46 (by decide) ?_
  refine x_iload_n dX11_putBytes_3 rfl ?_
  refine x_if_lt 49 dX11_putBytes_4 (by decide) (fun c => absurd c (by decide)) (fun _ => ?_)
  refine x_aload_n dX11_putBytes_7 rfl ?_
  refine x_get lf_X11_69 dX11_putBytes_8 (xup_self _ _ _) rfl ?_
  refine x_sipush (v := 400) dX11_putBytes_11 (by decide) ?_
  refine x_icmp_ge 49 dX11_putBytes_14 (by decide) (fun c_14 => absurd c_14 (nI_ge9 (show tsz + 1 < 400 by omega))) (fun c_14 => ?_)
  refine x_aload_n dX11_putBytes_17 rfl ?_
  refine x_get lf_X11_9 dX11_putBytes_18 (xup_self _ _ _) rfl ?_
  refine x_aload_n dX11_putBytes_21 rfl ?_
  refine x_get lf_X11_69 dX11_putBytes_22 (xup_self _ _ _) rfl ?_
  refine x_iload_n dX11_putBytes_25 rfl ?_
  refine x_iload_n dX11_putBytes_26 rfl ?_
  refine x_iushr dX11_putBytes_27 ?_
  refine x_sipush (v := 255) dX11_putBytes_28 (by decide) ?_
  refine x_iand dX11_putBytes_31 ?_
  refine x_iastN (j := tsz + 1) ((xup_ne (by decide)).trans (xup_self _ _ _)) rfl (by omega) (by decide) dX11_putBytes_32 ?_
  refine x_aload_n dX11_putBytes_33 rfl ?_
  refine x_dup dX11_putBytes_34 rfl ?_
  refine x_get lf_X11_69 dX11_putBytes_35 ((xup_ne (by decide)).trans (xup_self _ _ _)) rfl ?_
  refine x_iconst (v := 1) dX11_putBytes_38 (by decide) ?_
  refine x_iadd dX11_putBytes_39 ?_
  refine x_top (y := nI ((tsz + 1) + 1)) (nI_add (tsz + 1) 1) ?_
  refine x_put [.ref 2, .int (nI ((tsz + 1) + 1)), .ref 3, .ref 181, .ref 187, .ref 190, .ref 192, .int (bi ns), .ref 196, .ref 200, .ref 204, .int (nI rn), .int tr] lf_X11_69 dX11_putBytes_40 ((xup_ne (by decide)).trans (xup_self _ _ _)) (Nat.le_of_ble_eq_true rfl) rfl rfl rfl ?_
  refine x_iinc (v := 8) [(0, .ref 1), (1, .int v), (2, .int 8)] dX11_putBytes_43 rfl (by decide) (by decide) rfl rfl ?_
  refine x_goto 3 dX11_putBytes_46 (by decide) ?_
  refine x_iload_n dX11_putBytes_3 rfl ?_
  refine x_if_lt 49 dX11_putBytes_4 (by decide) (fun c => absurd c (by decide)) (fun _ => ?_)
  refine x_aload_n dX11_putBytes_7 rfl ?_
  refine x_get lf_X11_69 dX11_putBytes_8 (xup_self _ _ _) rfl ?_
  refine x_sipush (v := 400) dX11_putBytes_11 (by decide) ?_
  refine x_icmp_ge 49 dX11_putBytes_14 (by decide) (fun c_14 => absurd c_14 (nI_ge9 (show (tsz + 1) + 1 < 400 by omega))) (fun c_14 => ?_)
  refine x_aload_n dX11_putBytes_17 rfl ?_
  refine x_get lf_X11_9 dX11_putBytes_18 (xup_self _ _ _) rfl ?_
  refine x_aload_n dX11_putBytes_21 rfl ?_
  refine x_get lf_X11_69 dX11_putBytes_22 (xup_self _ _ _) rfl ?_
  refine x_iload_n dX11_putBytes_25 rfl ?_
  refine x_iload_n dX11_putBytes_26 rfl ?_
  refine x_iushr dX11_putBytes_27 ?_
  refine x_sipush (v := 255) dX11_putBytes_28 (by decide) ?_
  refine x_iand dX11_putBytes_31 ?_
  refine x_iastN (j := (tsz + 1) + 1) ((xup_ne (by decide)).trans (xup_self _ _ _)) rfl (by omega) (by decide) dX11_putBytes_32 ?_
  refine x_aload_n dX11_putBytes_33 rfl ?_
  refine x_dup dX11_putBytes_34 rfl ?_
  refine x_get lf_X11_69 dX11_putBytes_35 ((xup_ne (by decide)).trans (xup_self _ _ _)) rfl ?_
  refine x_iconst (v := 1) dX11_putBytes_38 (by decide) ?_
  refine x_iadd dX11_putBytes_39 ?_
  refine x_top (y := nI (((tsz + 1) + 1) + 1)) (nI_add ((tsz + 1) + 1) 1) ?_
  refine x_put [.ref 2, .int (nI (((tsz + 1) + 1) + 1)), .ref 3, .ref 181, .ref 187, .ref 190, .ref 192, .int (bi ns), .ref 196, .ref 200, .ref 204, .int (nI rn), .int tr] lf_X11_69 dX11_putBytes_40 ((xup_ne (by decide)).trans (xup_self _ _ _)) (Nat.le_of_ble_eq_true rfl) rfl rfl rfl ?_
  refine x_iinc (v := 0) [(0, .ref 1), (1, .int v), (2, .int 0)] dX11_putBytes_43 rfl (by decide) (by decide) rfl rfl ?_
  refine x_goto 3 dX11_putBytes_46 (by decide) ?_
  refine x_iload_n dX11_putBytes_3 rfl ?_
  refine x_if_lt 49 dX11_putBytes_4 (by decide) (fun c => absurd c (by decide)) (fun _ => ?_)
  refine x_aload_n dX11_putBytes_7 rfl ?_
  refine x_get lf_X11_69 dX11_putBytes_8 (xup_self _ _ _) rfl ?_
  refine x_sipush (v := 400) dX11_putBytes_11 (by decide) ?_
  refine x_icmp_ge 49 dX11_putBytes_14 (by decide) (fun c_14 => absurd c_14 (nI_ge9 (show ((tsz + 1) + 1) + 1 < 400 by omega))) (fun c_14 => ?_)
  refine x_aload_n dX11_putBytes_17 rfl ?_
  refine x_get lf_X11_9 dX11_putBytes_18 (xup_self _ _ _) rfl ?_
  refine x_aload_n dX11_putBytes_21 rfl ?_
  refine x_get lf_X11_69 dX11_putBytes_22 (xup_self _ _ _) rfl ?_
  refine x_iload_n dX11_putBytes_25 rfl ?_
  refine x_iload_n dX11_putBytes_26 rfl ?_
  refine x_iushr dX11_putBytes_27 ?_
  refine x_sipush (v := 255) dX11_putBytes_28 (by decide) ?_
  refine x_iand dX11_putBytes_31 ?_
  refine x_iastN (j := ((tsz + 1) + 1) + 1) ((xup_ne (by decide)).trans (xup_self _ _ _)) rfl (by omega) (by decide) dX11_putBytes_32 ?_
  refine x_aload_n dX11_putBytes_33 rfl ?_
  refine x_dup dX11_putBytes_34 rfl ?_
  refine x_get lf_X11_69 dX11_putBytes_35 ((xup_ne (by decide)).trans (xup_self _ _ _)) rfl ?_
  refine x_iconst (v := 1) dX11_putBytes_38 (by decide) ?_
  refine x_iadd dX11_putBytes_39 ?_
  refine x_top (y := nI ((((tsz + 1) + 1) + 1) + 1)) (nI_add (((tsz + 1) + 1) + 1) 1) ?_
  refine x_put [.ref 2, .int (nI ((((tsz + 1) + 1) + 1) + 1)), .ref 3, .ref 181, .ref 187, .ref 190, .ref 192, .int (bi ns), .ref 196, .ref 200, .ref 204, .int (nI rn), .int tr] lf_X11_69 dX11_putBytes_40 ((xup_ne (by decide)).trans (xup_self _ _ _)) (Nat.le_of_ble_eq_true rfl) rfl rfl rfl ?_
  refine x_iinc (v := (-8)) [(0, .ref 1), (1, .int v), (2, .int (-8))] dX11_putBytes_43 rfl (by decide) (by decide) rfl rfl ?_
  refine x_goto 3 dX11_putBytes_46 (by decide) ?_
  refine x_iload_n dX11_putBytes_3 rfl ?_
  refine x_if_lt 49 dX11_putBytes_4 (by decide) (fun _ => ?_) (fun c => absurd c (by decide))
  have hf : xfr h (xup (xup (xup (xup (xup (xup (xup (xup h 2 (.inl (0, 400, .inl (upd tp tsz (((v.toUInt32 >>> ((24 : Int32).toUInt32 &&& Int32.toUInt32 31)).toInt32) &&& 255))))) 1 (.inr (11, [.ref 2, .int (nI (tsz + 1)), .ref 3, .ref 181, .ref 187, .ref 190, .ref 192, .int (bi ns), .ref 196, .ref 200, .ref 204, .int (nI rn), .int tr]))) 2 (.inl (0, 400, .inl (upd (upd tp tsz (((v.toUInt32 >>> ((24 : Int32).toUInt32 &&& Int32.toUInt32 31)).toInt32) &&& 255)) (tsz + 1) (((v.toUInt32 >>> ((16 : Int32).toUInt32 &&& Int32.toUInt32 31)).toInt32) &&& 255))))) 1 (.inr (11, [.ref 2, .int (nI ((tsz + 1) + 1)), .ref 3, .ref 181, .ref 187, .ref 190, .ref 192, .int (bi ns), .ref 196, .ref 200, .ref 204, .int (nI rn), .int tr]))) 2 (.inl (0, 400, .inl (upd (upd (upd tp tsz (((v.toUInt32 >>> ((24 : Int32).toUInt32 &&& Int32.toUInt32 31)).toInt32) &&& 255)) (tsz + 1) (((v.toUInt32 >>> ((16 : Int32).toUInt32 &&& Int32.toUInt32 31)).toInt32) &&& 255)) ((tsz + 1) + 1) (((v.toUInt32 >>> ((8 : Int32).toUInt32 &&& Int32.toUInt32 31)).toInt32) &&& 255))))) 1 (.inr (11, [.ref 2, .int (nI (((tsz + 1) + 1) + 1)), .ref 3, .ref 181, .ref 187, .ref 190, .ref 192, .int (bi ns), .ref 196, .ref 200, .ref 204, .int (nI rn), .int tr]))) 2 (.inl (0, 400, .inl (upd (upd (upd (upd tp tsz (((v.toUInt32 >>> ((24 : Int32).toUInt32 &&& Int32.toUInt32 31)).toInt32) &&& 255)) (tsz + 1) (((v.toUInt32 >>> ((16 : Int32).toUInt32 &&& Int32.toUInt32 31)).toInt32) &&& 255)) ((tsz + 1) + 1) (((v.toUInt32 >>> ((8 : Int32).toUInt32 &&& Int32.toUInt32 31)).toInt32) &&& 255)) (((tsz + 1) + 1) + 1) (((v.toUInt32 >>> ((0 : Int32).toUInt32 &&& Int32.toUInt32 31)).toInt32) &&& 255))))) 1 (.inr (11, [.ref 2, .int (nI ((((tsz + 1) + 1) + 1) + 1)), .ref 3, .ref 181, .ref 187, .ref 190, .ref 192, .int (bi ns), .ref 196, .ref 200, .ref 204, .int (nI rn), .int tr]))) [1, 2] := (((((((((xfr_rf _ _).up (by simp)).up (by simp)).up (by simp)).up (by simp)).up (by simp)).up (by simp)).up (by simp)).up (by simp))
  exact x_vret dX11_putBytes_49 rfl (Nat.le_refl _) (Nat.le_refl _) ⟨rfl, xKp.of hf (by decide), ⟨(by rw [hf.1]; exact x.n), ((xup_self _ _ _)), (((xup_ne (by decide)).trans (xup_self _ _ _))), (x.b.kp hf (by decide)), (x.r.kp hf (by decide)), (jnI_kp x.j hf (by decide)), (x.g.kp hf (by decide)), (md_kp x.m hf (by decide)), (x.s.kp hf (by decide)), (x.k.kp hf (by decide)), (hf.at x.e (by decide))⟩⟩
set_option maxRecDepth 100000 in
set_option maxHeartbeats 4000000 in
theorem k_X11_feed {G : xG} {h : xHp} {tsz : Nat} {tp : Nat → Int32} {rc : Nat} {fc : Int32} {nt : Nat} {nk : Nat} {lf : Nat → Int32} {ra : Nat → Nat} {V : Nat → RV} {kw : Nat → Int64} {tw : Nat → Int64} {pf : Nat → Int32} {fr : Nat → Int32} {cl : Int32} {flt : Int32} {plc : Int32} {ns : Bool} {f : Nat → Int32} {g : Nat → Int32} {cn : Nat} {ct : Nat → Int32} {rn : Nat} {rs : Nat → Int32} {tr : Int32} (x : XH h tsz tp rc fc nt nk lf ra V kw tw pf fr cl flt plc ns f g cn ct rn rs tr) {a9 b9 c9 d9 e9 : Int32} (ht : tsz ≤ 400) : MX G mX11_feed 2 0 0 [.ref 1, .int a9, .int b9, .int c9, .int d9, .int e9] h (fun o h' => (380 < tsz ∧ o = .inl (some (.int (-1))) ∧ h' = h) ∨ (tsz ≤ 380 ∧ o = .inl (some (.int (nI (tsz + 4 + 4 + 4 + 4 + 4)))) ∧ xKp h h' ∧ XH h' (tsz + 4 + 4 + 4 + 4 + 4) (put4 (put4 (put4 (put4 (put4 (tp) (tsz) a9) (tsz + 4) b9) (tsz + 4 + 4) c9) (tsz + 4 + 4 + 4) d9) (tsz + 4 + 4 + 4 + 4) e9) rc fc nt nk lf ra V kw tw pf fr cl flt plc ns f g cn ct rn rs tr)) := by
  refine MX.of [(0, .ref 1), (1, .int a9), (2, .int b9), (3, .int c9), (4, .int d9), (5, .int e9)] (by decide) rfl (Nat.le_of_ble_eq_true rfl) rfl ?_
  refine x_aload_n dX11_feed_0 rfl ?_
  refine x_get lf_X11_69 dX11_feed_1 x.c rfl ?_
  refine x_sipush (v := 380) dX11_feed_4 (by decide) ?_
  refine x_icmp_le 12 dX11_feed_7 (by decide) (fun c_7 => ?_) (fun c_7 => ?_)
  · rw [show (380 : Int32) = nI 380 from rfl, nI_leI (by omega) (by omega)] at c_7
    refine x_aload_n dX11_feed_12 rfl ?_
    refine x_iload_n dX11_feed_13 rfl ?_
    refine x_callV (As := [.int a9]) (st := []) lv_X11_73 (k_X11_putBytes x (by omega)) dX11_feed_14 x.c rfl rfl (Nat.le_of_ble_eq_true rfl) ⟨by decide, by decide⟩ ⟨by decide, by decide⟩ (fun v h1 q => ?_) (fun _ _ _ _ _ q => by cases q.1)
    obtain ⟨ev, f1, x1⟩ := q
    cases ev
    refine x_aload_n dX11_feed_17 rfl ?_
    refine x_iload_n dX11_feed_18 rfl ?_
    refine x_callV (As := [.int b9]) (st := []) lv_X11_73 (k_X11_putBytes x1 (by omega)) dX11_feed_19 x1.c rfl rfl (Nat.le_of_ble_eq_true rfl) ⟨by decide, by decide⟩ ⟨by decide, by decide⟩ (fun v h2 q => ?_) (fun _ _ _ _ _ q => by cases q.1)
    obtain ⟨ev, f2, x2⟩ := q
    cases ev
    refine x_aload_n dX11_feed_22 rfl ?_
    refine x_iload_n dX11_feed_23 rfl ?_
    refine x_callV (As := [.int c9]) (st := []) lv_X11_73 (k_X11_putBytes x2 (by omega)) dX11_feed_24 x2.c rfl rfl (Nat.le_of_ble_eq_true rfl) ⟨by decide, by decide⟩ ⟨by decide, by decide⟩ (fun v h3 q => ?_) (fun _ _ _ _ _ q => by cases q.1)
    obtain ⟨ev, f3, x3⟩ := q
    cases ev
    refine x_aload_n dX11_feed_27 rfl ?_
    refine x_iload dX11_feed_28 rfl ?_
    refine x_callV (As := [.int d9]) (st := []) lv_X11_73 (k_X11_putBytes x3 (by omega)) dX11_feed_30 x3.c rfl rfl (Nat.le_of_ble_eq_true rfl) ⟨by decide, by decide⟩ ⟨by decide, by decide⟩ (fun v h4 q => ?_) (fun _ _ _ _ _ q => by cases q.1)
    obtain ⟨ev, f4, x4⟩ := q
    cases ev
    refine x_aload_n dX11_feed_33 rfl ?_
    refine x_iload dX11_feed_34 rfl ?_
    refine x_callV (As := [.int e9]) (st := []) lv_X11_73 (k_X11_putBytes x4 (by omega)) dX11_feed_36 x4.c rfl rfl (Nat.le_of_ble_eq_true rfl) ⟨by decide, by decide⟩ ⟨by decide, by decide⟩ (fun v h5 q => ?_) (fun _ _ _ _ _ q => by cases q.1)
    obtain ⟨ev, f5, x5⟩ := q
    cases ev
    refine x_aload_n dX11_feed_39 rfl ?_
    refine x_get lf_X11_69 dX11_feed_40 x5.c rfl ?_
    exact x_iret dX11_feed_43 rfl rfl (Nat.le_refl _) (Nat.le_refl _) (Or.inr ⟨by omega, rfl, f1.tr (f2.tr (f3.tr (f4.tr f5))), x5⟩)
  · rw [show (380 : Int32) = nI 380 from rfl, nI_leI (by omega) (by omega)] at c_7
    refine x_iconst (v := (-1)) dX11_feed_10 (by decide) ?_
    exact x_iret dX11_feed_11 rfl rfl (Nat.le_refl _) (Nat.le_refl _) (Or.inl ⟨by omega, rfl, rfl⟩)
set_option maxRecDepth 100000 in
set_option maxHeartbeats 4000000 in
theorem k_X11_fault {G : xG} {h : xHp} {tsz : Nat} {tp : Nat → Int32} {rc : Nat} {fc : Int32} {nt : Nat} {nk : Nat} {lf : Nat → Int32} {ra : Nat → Nat} {V : Nat → RV} {kw : Nat → Int64} {tw : Nat → Int64} {pf : Nat → Int32} {fr : Nat → Int32} {cl : Int32} {flt : Int32} {plc : Int32} {ns : Bool} {f : Nat → Int32} {g : Nat → Int32} {cn : Nat} {ct : Nat → Int32} {rn : Nat} {rs : Nat → Int32} {tr : Int32} (x : XH h tsz tp rc fc nt nk lf ra V kw tw pf fr cl flt plc ns f g cn ct rn rs tr) : MX G mX11_fault 1 0 0 [.ref 1] h (xAns (.int flt) h) := by
  obtain ⟨at9, fn9, ts9, ty9, st9, wd9, fs9, r1, r2, r3, r4, r5, r6⟩ := x.r
  refine MX.of [(0, .ref 1)] (by decide) rfl (Nat.le_of_ble_eq_true rfl) rfl ?_
  refine x_aload_n dX11_fault_0 rfl ?_
  refine x_get lf_X11_25 dX11_fault_1 x.c rfl ?_
  refine x_get lf_X11_95 dX11_fault_4 r1 rfl ?_
  exact x_iret dX11_fault_7 rfl rfl (Nat.le_refl _) (Nat.le_refl _) ⟨rfl, rfl⟩
set_option maxRecDepth 100000 in
set_option maxHeartbeats 4000000 in
theorem k_X11_where {G : xG} {h : xHp} {tsz : Nat} {tp : Nat → Int32} {rc : Nat} {fc : Int32} {nt : Nat} {nk : Nat} {lf : Nat → Int32} {ra : Nat → Nat} {V : Nat → RV} {kw : Nat → Int64} {tw : Nat → Int64} {pf : Nat → Int32} {fr : Nat → Int32} {cl : Int32} {flt : Int32} {plc : Int32} {ns : Bool} {f : Nat → Int32} {g : Nat → Int32} {cn : Nat} {ct : Nat → Int32} {rn : Nat} {rs : Nat → Int32} {tr : Int32} (x : XH h tsz tp rc fc nt nk lf ra V kw tw pf fr cl flt plc ns f g cn ct rn rs tr) : MX G mX11_where 1 0 0 [.ref 1] h (xAns (.int (if tr = 4 then plc else -1)) h) := by
  obtain ⟨at9, fn9, ts9, ty9, st9, wd9, fs9, r1, r2, r3, r4, r5, r6⟩ := x.r
  refine MX.of [(0, .ref 1)] (by decide) rfl (Nat.le_of_ble_eq_true rfl) rfl ?_
  refine x_aload_n dX11_where_0 rfl ?_
  refine x_get lf_X11_89 dX11_where_1 x.c rfl ?_
  refine x_iconst (v := 4) dX11_where_4 (by decide) ?_
  refine x_icmp_ne 18 dX11_where_5 (by decide) (fun c_5 => ?_) (fun c_5 => ?_)
  · refine x_iconst (v := (-1)) dX11_where_18 (by decide) ?_
    exact x_iret dX11_where_19 rfl rfl (Nat.le_refl _) (Nat.le_refl _) ⟨by first | rw [if_pos c_5] | rw [if_neg c_5], rfl⟩
  · refine x_aload_n dX11_where_8 rfl ?_
    refine x_get lf_X11_25 dX11_where_9 x.c rfl ?_
    refine x_get lf_X11_98 dX11_where_12 r1 rfl ?_
    refine x_goto 19 dX11_where_15 (by decide) ?_
    exact x_iret dX11_where_19 rfl rfl (Nat.le_refl _) (Nat.le_refl _) ⟨by first | rw [if_pos c_5] | rw [if_neg c_5], rfl⟩
set_option maxRecDepth 100000 in
set_option maxHeartbeats 4000000 in
theorem k_X11_trouble {G : xG} {h : xHp} {tsz : Nat} {tp : Nat → Int32} {rc : Nat} {fc : Int32} {nt : Nat} {nk : Nat} {lf : Nat → Int32} {ra : Nat → Nat} {V : Nat → RV} {kw : Nat → Int64} {tw : Nat → Int64} {pf : Nat → Int32} {fr : Nat → Int32} {cl : Int32} {flt : Int32} {plc : Int32} {ns : Bool} {f : Nat → Int32} {g : Nat → Int32} {cn : Nat} {ct : Nat → Int32} {rn : Nat} {rs : Nat → Int32} {tr : Int32} (x : XH h tsz tp rc fc nt nk lf ra V kw tw pf fr cl flt plc ns f g cn ct rn rs tr) : MX G mX11_trouble 1 0 0 [.ref 1] h (xAns (.int tr) h) := by
  refine MX.of [(0, .ref 1)] (by decide) rfl (Nat.le_of_ble_eq_true rfl) rfl ?_
  refine x_aload_n dX11_trouble_0 rfl ?_
  refine x_get lf_X11_89 dX11_trouble_1 x.c rfl ?_
  exact x_iret dX11_trouble_4 rfl rfl (Nat.le_refl _) (Nat.le_refl _) ⟨rfl, rfl⟩
/-- f i if i is one of the first n, else -1 -/
def jn (n : Nat) (i : Int32) (f : Nat → Int32) : Int32 := if inR i n = true then f i.toNatClampNeg else -1
theorem jn_t {n : Nat} {i : Int32} {f : Nat → Int32} (h : inR i n = true) : (.inl (some (Value.int (f i.toNatClampNeg))) : Option Value ⊕ Nat) = .inl (some (.int (jn n i f))) := by rw [jn, if_pos h]
theorem jn_f {n : Nat} {i : Int32} {f : Nat → Int32} (h : inR i n = false) : (.inl (some (Value.int (-1))) : Option Value ⊕ Nat) = .inl (some (.int (jn n i f))) := by rw [jn, if_neg (by rw [h]; decide)]
theorem vin_of {i : Int32} {n N : Nat} (h1 : ¬ i < 0) (h2 : ¬ nI n ≤ i) (h : n ≤ N ∧ N < 2 ^ 31) : vp_in i N := by
  obtain ⟨j, hj, rfl⟩ := inR_of (show inR i n = true by simp [inR, h1, h2]) (by omega)
  exact vp_in_nI (by omega) (by omega)
set_option maxRecDepth 100000 in
set_option maxHeartbeats 4000000 in
theorem k_X11_because {G : xG} {h : xHp} {tsz : Nat} {tp : Nat → Int32} {rc : Nat} {fc : Int32} {nt : Nat} {nk : Nat} {lf : Nat → Int32} {ra : Nat → Nat} {V : Nat → RV} {kw : Nat → Int64} {tw : Nat → Int64} {pf : Nat → Int32} {fr : Nat → Int32} {cl : Int32} {flt : Int32} {plc : Int32} {ns : Bool} {f : Nat → Int32} {g : Nat → Int32} {cn : Nat} {ct : Nat → Int32} {rn : Nat} {rs : Nat → Int32} {tr : Int32} (x : XH h tsz tp rc fc nt nk lf ra V kw tw pf fr cl flt plc ns f g cn ct rn rs tr) {i : Int32} (hr : rn ≤ 4) : MX G mX11_because 1 0 0 [.ref 1, .int i] h (xAns (.int (jn rn i rs)) h) := by
  refine MX.of [(0, .ref 1), (1, .int i)] (by decide) rfl (Nat.le_of_ble_eq_true rfl) rfl ?_
  refine x_iload_n dX11_because_0 rfl ?_
  refine x_if_lt 21 dX11_because_1 (by decide) (fun c_1 => ?_) (fun c_1 => ?_)
  · refine x_iconst (v := (-1)) dX11_because_21 (by decide) ?_
    exact x_iret dX11_because_22 rfl rfl (Nat.le_refl _) (Nat.le_refl _) (by first | exact ⟨jn_f (by simp [inR, *]), rfl⟩ | exact ⟨jn_t (by simp [inR, *]), rfl⟩)
  · refine x_iload_n dX11_because_4 rfl ?_
    refine x_aload_n dX11_because_5 rfl ?_
    refine x_get lf_X11_190 dX11_because_6 x.c rfl ?_
    refine x_icmp_ge 21 dX11_because_9 (by decide) (fun c_9 => ?_) (fun c_9 => ?_)
    · refine x_iconst (v := (-1)) dX11_because_21 (by decide) ?_
      exact x_iret dX11_because_22 rfl rfl (Nat.le_refl _) (Nat.le_refl _) (by first | exact ⟨jn_f (by simp [inR, *]), rfl⟩ | exact ⟨jn_t (by simp [inR, *]), rfl⟩)
    · refine x_aload_n dX11_because_12 rfl ?_
      refine x_get lf_X11_66 dX11_because_13 x.c rfl ?_
      refine x_iload_n dX11_because_16 rfl ?_
      refine x_iald x.e (vin_of c_1 c_9 (by omega)) dX11_because_17 ?_
      refine x_goto 22 dX11_because_18 (by decide) ?_
      exact x_iret dX11_because_22 rfl rfl (Nat.le_refl _) (Nat.le_refl _) (by first | exact ⟨jn_f (by simp [inR, *]), rfl⟩ | exact ⟨jn_t (by simp [inR, *]), rfl⟩)
set_option maxRecDepth 100000 in
set_option maxHeartbeats 4000000 in
theorem k_X11_gone {G : xG} {h : xHp} {tsz : Nat} {tp : Nat → Int32} {rc : Nat} {fc : Int32} {nt : Nat} {nk : Nat} {lf : Nat → Int32} {ra : Nat → Nat} {V : Nat → RV} {kw : Nat → Int64} {tw : Nat → Int64} {pf : Nat → Int32} {fr : Nat → Int32} {cl : Int32} {flt : Int32} {plc : Int32} {ns : Bool} {f : Nat → Int32} {g : Nat → Int32} {cn : Nat} {ct : Nat → Int32} {rn : Nat} {rs : Nat → Int32} {tr : Int32} (x : XH h tsz tp rc fc nt nk lf ra V kw tw pf fr cl flt plc ns f g cn ct rn rs tr) {i : Int32} (hr : cn ≤ 3) : MX G mX11_gone 1 0 0 [.ref 1, .int i] h (xAns (.int (jn cn i ct)) h) := by
  obtain ⟨gl9, kb9, cc9, ca9, pk9, k1, k2, k3, k4⟩ := x.k
  refine MX.of [(0, .ref 1), (1, .int i)] (by decide) rfl (Nat.le_of_ble_eq_true rfl) rfl ?_
  refine x_iload_n dX11_gone_0 rfl ?_
  refine x_if_lt 27 dX11_gone_1 (by decide) (fun c_1 => ?_) (fun c_1 => ?_)
  · refine x_iconst (v := (-1)) dX11_gone_27 (by decide) ?_
    exact x_iret dX11_gone_28 rfl rfl (Nat.le_refl _) (Nat.le_refl _) (by first | exact ⟨jn_f (by simp [inR, *]), rfl⟩ | exact ⟨jn_t (by simp [inR, *]), rfl⟩)
  · refine x_iload_n dX11_gone_4 rfl ?_
    refine x_aload_n dX11_gone_5 rfl ?_
    refine x_get lf_X11_62 dX11_gone_6 x.c rfl ?_
    refine x_get lf_X11_258 dX11_gone_9 k1 rfl ?_
    refine x_icmp_ge 27 dX11_gone_12 (by decide) (fun c_12 => ?_) (fun c_12 => ?_)
    · refine x_iconst (v := (-1)) dX11_gone_27 (by decide) ?_
      exact x_iret dX11_gone_28 rfl rfl (Nat.le_refl _) (Nat.le_refl _) (by first | exact ⟨jn_f (by simp [inR, *]), rfl⟩ | exact ⟨jn_t (by simp [inR, *]), rfl⟩)
    · refine x_aload_n dX11_gone_15 rfl ?_
      refine x_get lf_X11_62 dX11_gone_16 x.c rfl ?_
      refine x_get lf_X11_261 dX11_gone_19 k1 rfl ?_
      refine x_iload_n dX11_gone_22 rfl ?_
      refine x_iald k4 (vin_of c_1 c_12 (by omega)) dX11_gone_23 ?_
      refine x_goto 28 dX11_gone_24 (by decide) ?_
      exact x_iret dX11_gone_28 rfl rfl (Nat.le_refl _) (Nat.le_refl _) (by first | exact ⟨jn_f (by simp [inR, *]), rfl⟩ | exact ⟨jn_t (by simp [inR, *]), rfl⟩)
