/-! Arrays.fill, Integer.bitCount, RuleCourt$Model -/
theorem x_heap {G : xG} {M : xM} {R : Room} {F : List Frame → Array Value → State → State → Prop} {uc us pc : Nat} {ls : List (Nat × Value)} {st : List Value} {h h' : xHp} (e : h = h') (k : Wx G M R F uc us pc ls st h') : Wx G M R F uc us pc ls st h := e ▸ k
/-- nothing but the cells of L is another -/
def xfr (h h' : xHp) (L : List Nat) : Prop := h'.2 = h.2 ∧ ∀ q, q ∉ L → h'.1 q = h.1 q
theorem xfr_rf (h : xHp) (L : List Nat) : xfr h h L := ⟨rfl, fun _ _ => rfl⟩
theorem xfr.tr {h h1 h2 : xHp} {L : List Nat} (a : xfr h h1 L) (b : xfr h1 h2 L) : xfr h h2 L := ⟨b.1.trans a.1, fun q hq => (b.2 q hq).trans (a.2 q hq)⟩
theorem xfr.up {h h1 : xHp} {L : List Nat} {a : Nat} {c : xCel} (f : xfr h h1 L) (ha : a ∈ L) : xfr h (xup h1 a c) L := ⟨f.1, fun q hq => (xup_ne (fun e => hq (by rw [e]; exact ha))).trans (f.2 q hq)⟩
theorem xfr.wd {h h1 : xHp} {L L' : List Nat} (f : xfr h h1 L) (hs : ∀ q ∈ L, q ∈ L') : xfr h h1 L' := ⟨f.1, fun q hq => f.2 q (fun e => hq (hs q e))⟩
theorem xfr.at {h h1 : xHp} {L : List Nat} {q : Nat} {c : xCel} (f : xfr h h1 L) (hc : h.1 q = some c) (hq : q ∉ L) : h1.1 q = some c := (f.2 q hq).trans hc
set_option maxRecDepth 100000 in
set_option maxHeartbeats 4000000 in
theorem l_fill {G : xG} {h : xHp} {a n : Nat} {f : Nat → Int32} {v : Int32} (hc : h.1 a = some (.inl (0, n, .inl f))) (hn : n < 2 ^ 31) : ∀ (k i : Nat), i ≤ n → n + 1 ≤ i + k → Wx G mJ7_fill_53178 (xRm 1 0 0) (xF G (xVoid (xup h a (.inl (0, n, .inl (fa_fill (fun _ => v) f n))))) 0 0) 0 0 5 [(0, .ref a), (1, .int v), (2, .int (nI i)), (3, .int (nI n))] [] (xup h a (.inl (0, n, .inl (fa_fill (fun _ => v) f i)))) := by
  intro k
  induction k with
  | zero => exact fun i h1 h2 => absurd h2 (by omega)
  | succ k ih =>
    intro i hk hk2
    refine x_iload_n dJ7_fill_53178_5 rfl ?_
    refine x_iload_n dJ7_fill_53178_6 rfl ?_
    refine x_icmp_ge 20 dJ7_fill_53178_7 (by decide) (fun c_7 => ?_) (fun c_7 => ?_)
    · rw [nI_leI (by omega) (by omega)] at c_7
      exact x_vret dJ7_fill_53178_20 rfl (Nat.le_refl _) (Nat.le_refl _) ⟨rfl, by rw [show i = n by omega]⟩
    · rw [nI_leI (by omega) (by omega)] at c_7
      refine x_aload_n dJ7_fill_53178_10 rfl ?_
      refine x_iload_n dJ7_fill_53178_11 rfl ?_
      refine x_iload_n dJ7_fill_53178_12 rfl ?_
      refine x_iastN (j := i) (xup_self _ _ _) rfl (by omega) hn dJ7_fill_53178_13 ?_
      refine x_iinc (v := nI (i + 1)) [(0, .ref a), (1, .int v), (2, .int (nI (i + 1))), (3, .int (nI n))] dJ7_fill_53178_14 rfl (nI_add i 1) (by decide) rfl rfl ?_
      refine x_goto 5 dJ7_fill_53178_17 (by decide) ?_
      exact x_heap (by rw [xup_up, ← fa_fill_succ]) (ih (i + 1) (by omega) (by omega))
set_option maxRecDepth 100000 in
set_option maxHeartbeats 4000000 in
theorem k_fill {G : xG} {h : xHp} {a n : Nat} {f : Nat → Int32} {v : Int32} (hc : h.1 a = some (.inl (0, n, .inl f))) (hn : n < 2 ^ 31) : MX G mJ7_fill_53178 1 0 0 [.ref a, .int v] h (xVoid (xup h a (.inl (0, n, .inl (fa_fill (fun _ => v) f n))))) := by
  refine MX.of [(0, .ref a), (1, .int v)] (by decide) rfl (Nat.le_of_ble_eq_true rfl) rfl ?_
  refine x_iconst (v := 0) dJ7_fill_53178_0 (by decide) ?_
  refine x_istore_n [(0, .ref a), (1, .int v), (2, .int 0)] dJ7_fill_53178_1 (by decide) rfl rfl ?_
  refine x_aload_n dJ7_fill_53178_2 rfl ?_
  refine x_alen hc (by decide) dJ7_fill_53178_3 ?_
  refine x_istore_n [(0, .ref a), (1, .int v), (2, .int 0), (3, .int (nI n))] dJ7_fill_53178_4 (by decide) rfl rfl ?_
  exact x_heap (by rw [fa_fill_0, xup_id hc]) (l_fill hc hn (n + 1) 0 (by omega) (by omega))
set_option maxRecDepth 100000 in
set_option maxHeartbeats 4000000 in
theorem k_bitCount {G : xG} {h : xHp} {x : Int32} : MX G mJ6_bitCount_0f7a4 1 0 0 [.int x] h (xAns (.int (xBC x)) h) := by
  refine MX.of [(0, .int x)] (by decide) rfl (Nat.le_of_ble_eq_true rfl) rfl ?_
  refine x_iload_n dJ6_bitCount_0f7a4_0 rfl ?_
  refine x_iload_n dJ6_bitCount_0f7a4_1 rfl ?_
  refine x_iconst (v := 1) dJ6_bitCount_0f7a4_2 (by decide) ?_
  refine x_iushr dJ6_bitCount_0f7a4_3 ?_
  refine x_ldcw kc_J6_265 dJ6_bitCount_0f7a4_4 ?_
  refine x_iand dJ6_bitCount_0f7a4_7 ?_
  refine x_isub dJ6_bitCount_0f7a4_8 ?_
  refine x_istore_n [(0, .int (x - (((x.toUInt32 >>> ((1 : Int32).toUInt32 &&& Int32.toUInt32 31)).toInt32) &&& 1431655765)))] dJ6_bitCount_0f7a4_9 (by decide) rfl rfl ?_
  refine x_iload_n dJ6_bitCount_0f7a4_10 rfl ?_
  refine x_ldcw kc_J6_266 dJ6_bitCount_0f7a4_11 ?_
  refine x_iand dJ6_bitCount_0f7a4_14 ?_
  refine x_iload_n dJ6_bitCount_0f7a4_15 rfl ?_
  refine x_iconst (v := 2) dJ6_bitCount_0f7a4_16 (by decide) ?_
  refine x_iushr dJ6_bitCount_0f7a4_17 ?_
  refine x_ldcw kc_J6_266 dJ6_bitCount_0f7a4_18 ?_
  refine x_iand dJ6_bitCount_0f7a4_21 ?_
  refine x_iadd dJ6_bitCount_0f7a4_22 ?_
  refine x_istore_n [(0, .int (((x - (((x.toUInt32 >>> ((1 : Int32).toUInt32 &&& Int32.toUInt32 31)).toInt32) &&& 1431655765)) &&& 858993459) + ((((x - (((x.toUInt32 >>> ((1 : Int32).toUInt32 &&& Int32.toUInt32 31)).toInt32) &&& 1431655765)).toUInt32 >>> ((2 : Int32).toUInt32 &&& Int32.toUInt32 31)).toInt32) &&& 858993459)))] dJ6_bitCount_0f7a4_23 (by decide) rfl rfl ?_
  refine x_iload_n dJ6_bitCount_0f7a4_24 rfl ?_
  refine x_iload_n dJ6_bitCount_0f7a4_25 rfl ?_
  refine x_iconst (v := 4) dJ6_bitCount_0f7a4_26 (by decide) ?_
  refine x_iushr dJ6_bitCount_0f7a4_27 ?_
  refine x_iadd dJ6_bitCount_0f7a4_28 ?_
  refine x_ldcw kc_J6_267 dJ6_bitCount_0f7a4_29 ?_
  refine x_iand dJ6_bitCount_0f7a4_32 ?_
  refine x_istore_n [(0, .int (((((x - (((x.toUInt32 >>> ((1 : Int32).toUInt32 &&& Int32.toUInt32 31)).toInt32) &&& 1431655765)) &&& 858993459) + ((((x - (((x.toUInt32 >>> ((1 : Int32).toUInt32 &&& Int32.toUInt32 31)).toInt32) &&& 1431655765)).toUInt32 >>> ((2 : Int32).toUInt32 &&& Int32.toUInt32 31)).toInt32) &&& 858993459)) + (((((x - (((x.toUInt32 >>> ((1 : Int32).toUInt32 &&& Int32.toUInt32 31)).toInt32) &&& 1431655765)) &&& 858993459) + ((((x - (((x.toUInt32 >>> ((1 : Int32).toUInt32 &&& Int32.toUInt32 31)).toInt32) &&& 1431655765)).toUInt32 >>> ((2 : Int32).toUInt32 &&& Int32.toUInt32 31)).toInt32) &&& 858993459)).toUInt32 >>> ((4 : Int32).toUInt32 &&& Int32.toUInt32 31)).toInt32)) &&& 252645135))] dJ6_bitCount_0f7a4_33 (by decide) rfl rfl ?_
  refine x_iload_n dJ6_bitCount_0f7a4_34 rfl ?_
  refine x_iload_n dJ6_bitCount_0f7a4_35 rfl ?_
  refine x_bipush (v := 8) dJ6_bitCount_0f7a4_36 (by decide) ?_
  refine x_iushr dJ6_bitCount_0f7a4_38 ?_
  refine x_iadd dJ6_bitCount_0f7a4_39 ?_
  refine x_istore_n [(0, .int ((((((x - (((x.toUInt32 >>> ((1 : Int32).toUInt32 &&& Int32.toUInt32 31)).toInt32) &&& 1431655765)) &&& 858993459) + ((((x - (((x.toUInt32 >>> ((1 : Int32).toUInt32 &&& Int32.toUInt32 31)).toInt32) &&& 1431655765)).toUInt32 >>> ((2 : Int32).toUInt32 &&& Int32.toUInt32 31)).toInt32) &&& 858993459)) + (((((x - (((x.toUInt32 >>> ((1 : Int32).toUInt32 &&& Int32.toUInt32 31)).toInt32) &&& 1431655765)) &&& 858993459) + ((((x - (((x.toUInt32 >>> ((1 : Int32).toUInt32 &&& Int32.toUInt32 31)).toInt32) &&& 1431655765)).toUInt32 >>> ((2 : Int32).toUInt32 &&& Int32.toUInt32 31)).toInt32) &&& 858993459)).toUInt32 >>> ((4 : Int32).toUInt32 &&& Int32.toUInt32 31)).toInt32)) &&& 252645135) + (((((((x - (((x.toUInt32 >>> ((1 : Int32).toUInt32 &&& Int32.toUInt32 31)).toInt32) &&& 1431655765)) &&& 858993459) + ((((x - (((x.toUInt32 >>> ((1 : Int32).toUInt32 &&& Int32.toUInt32 31)).toInt32) &&& 1431655765)).toUInt32 >>> ((2 : Int32).toUInt32 &&& Int32.toUInt32 31)).toInt32) &&& 858993459)) + (((((x - (((x.toUInt32 >>> ((1 : Int32).toUInt32 &&& Int32.toUInt32 31)).toInt32) &&& 1431655765)) &&& 858993459) + ((((x - (((x.toUInt32 >>> ((1 : Int32).toUInt32 &&& Int32.toUInt32 31)).toInt32) &&& 1431655765)).toUInt32 >>> ((2 : Int32).toUInt32 &&& Int32.toUInt32 31)).toInt32) &&& 858993459)).toUInt32 >>> ((4 : Int32).toUInt32 &&& Int32.toUInt32 31)).toInt32)) &&& 252645135).toUInt32 >>> ((8 : Int32).toUInt32 &&& Int32.toUInt32 31)).toInt32)))] dJ6_bitCount_0f7a4_40 (by decide) rfl rfl ?_
  refine x_iload_n dJ6_bitCount_0f7a4_41 rfl ?_
  refine x_iload_n dJ6_bitCount_0f7a4_42 rfl ?_
  refine x_bipush (v := 16) dJ6_bitCount_0f7a4_43 (by decide) ?_
  refine x_iushr dJ6_bitCount_0f7a4_45 ?_
  refine x_iadd dJ6_bitCount_0f7a4_46 ?_
  refine x_istore_n [(0, .int (((((((x - (((x.toUInt32 >>> ((1 : Int32).toUInt32 &&& Int32.toUInt32 31)).toInt32) &&& 1431655765)) &&& 858993459) + ((((x - (((x.toUInt32 >>> ((1 : Int32).toUInt32 &&& Int32.toUInt32 31)).toInt32) &&& 1431655765)).toUInt32 >>> ((2 : Int32).toUInt32 &&& Int32.toUInt32 31)).toInt32) &&& 858993459)) + (((((x - (((x.toUInt32 >>> ((1 : Int32).toUInt32 &&& Int32.toUInt32 31)).toInt32) &&& 1431655765)) &&& 858993459) + ((((x - (((x.toUInt32 >>> ((1 : Int32).toUInt32 &&& Int32.toUInt32 31)).toInt32) &&& 1431655765)).toUInt32 >>> ((2 : Int32).toUInt32 &&& Int32.toUInt32 31)).toInt32) &&& 858993459)).toUInt32 >>> ((4 : Int32).toUInt32 &&& Int32.toUInt32 31)).toInt32)) &&& 252645135) + (((((((x - (((x.toUInt32 >>> ((1 : Int32).toUInt32 &&& Int32.toUInt32 31)).toInt32) &&& 1431655765)) &&& 858993459) + ((((x - (((x.toUInt32 >>> ((1 : Int32).toUInt32 &&& Int32.toUInt32 31)).toInt32) &&& 1431655765)).toUInt32 >>> ((2 : Int32).toUInt32 &&& Int32.toUInt32 31)).toInt32) &&& 858993459)) + (((((x - (((x.toUInt32 >>> ((1 : Int32).toUInt32 &&& Int32.toUInt32 31)).toInt32) &&& 1431655765)) &&& 858993459) + ((((x - (((x.toUInt32 >>> ((1 : Int32).toUInt32 &&& Int32.toUInt32 31)).toInt32) &&& 1431655765)).toUInt32 >>> ((2 : Int32).toUInt32 &&& Int32.toUInt32 31)).toInt32) &&& 858993459)).toUInt32 >>> ((4 : Int32).toUInt32 &&& Int32.toUInt32 31)).toInt32)) &&& 252645135).toUInt32 >>> ((8 : Int32).toUInt32 &&& Int32.toUInt32 31)).toInt32)) + ((((((((x - (((x.toUInt32 >>> ((1 : Int32).toUInt32 &&& Int32.toUInt32 31)).toInt32) &&& 1431655765)) &&& 858993459) + ((((x - (((x.toUInt32 >>> ((1 : Int32).toUInt32 &&& Int32.toUInt32 31)).toInt32) &&& 1431655765)).toUInt32 >>> ((2 : Int32).toUInt32 &&& Int32.toUInt32 31)).toInt32) &&& 858993459)) + (((((x - (((x.toUInt32 >>> ((1 : Int32).toUInt32 &&& Int32.toUInt32 31)).toInt32) &&& 1431655765)) &&& 858993459) + ((((x - (((x.toUInt32 >>> ((1 : Int32).toUInt32 &&& Int32.toUInt32 31)).toInt32) &&& 1431655765)).toUInt32 >>> ((2 : Int32).toUInt32 &&& Int32.toUInt32 31)).toInt32) &&& 858993459)).toUInt32 >>> ((4 : Int32).toUInt32 &&& Int32.toUInt32 31)).toInt32)) &&& 252645135) + (((((((x - (((x.toUInt32 >>> ((1 : Int32).toUInt32 &&& Int32.toUInt32 31)).toInt32) &&& 1431655765)) &&& 858993459) + ((((x - (((x.toUInt32 >>> ((1 : Int32).toUInt32 &&& Int32.toUInt32 31)).toInt32) &&& 1431655765)).toUInt32 >>> ((2 : Int32).toUInt32 &&& Int32.toUInt32 31)).toInt32) &&& 858993459)) + (((((x - (((x.toUInt32 >>> ((1 : Int32).toUInt32 &&& Int32.toUInt32 31)).toInt32) &&& 1431655765)) &&& 858993459) + ((((x - (((x.toUInt32 >>> ((1 : Int32).toUInt32 &&& Int32.toUInt32 31)).toInt32) &&& 1431655765)).toUInt32 >>> ((2 : Int32).toUInt32 &&& Int32.toUInt32 31)).toInt32) &&& 858993459)).toUInt32 >>> ((4 : Int32).toUInt32 &&& Int32.toUInt32 31)).toInt32)) &&& 252645135).toUInt32 >>> ((8 : Int32).toUInt32 &&& Int32.toUInt32 31)).toInt32)).toUInt32 >>> ((16 : Int32).toUInt32 &&& Int32.toUInt32 31)).toInt32)))] dJ6_bitCount_0f7a4_47 (by decide) rfl rfl ?_
  refine x_iload_n dJ6_bitCount_0f7a4_48 rfl ?_
  refine x_bipush (v := 63) dJ6_bitCount_0f7a4_49 (by decide) ?_
  refine x_iand dJ6_bitCount_0f7a4_51 ?_
  exact x_iret dJ6_bitCount_0f7a4_52 rfl rfl (Nat.le_refl _) (Nat.le_refl _) ⟨rfl, rfl⟩
abbrev mC (b : Bool) (rw9 sp ch : Nat) (clk : Int32) : xCel := .inr (5, [.int (bi b), .ref rw9, .ref sp, .ref ch, .int clk])
def fRow (f : Nat → Int32) (n : Nat) : Nat → Int32 := upd f (n / 10) (f (n / 10) ^^^ ((1 : Int32) <<< (nI (n % 10) &&& 31)))
set_option maxRecDepth 100000 in
set_option maxHeartbeats 4000000 in
theorem k_X5_has {G : xG} {h : xHp} {a rw9 sp ch n : Nat} {b : Bool} {clk : Int32} {f : Nat → Int32} {S : Nat → Bool} (hc : h.1 a = some (mC b rw9 sp ch clk)) (hf : h.1 rw9 = some (.inl (0, 100, .inl f))) (hS : isRows f S) (hn : n < 1000) : MX G mX5_has 1 0 0 [.ref a, .int (nI n)] h (xAns (.int (bi (S n))) h) := by
  refine MX.of [(0, .ref a), (1, .int (nI n))] (by decide) rfl (Nat.le_of_ble_eq_true rfl) rfl ?_
  refine x_aload_n dX5_has_0 rfl ?_
  refine x_get lf_X5_11 dX5_has_1 hc rfl ?_
  refine x_iload_n dX5_has_4 rfl ?_
  refine x_bipush (v := 10) dX5_has_5 (by decide) ?_
  refine x_idiv dX5_has_7 (by decide) ?_
  refine x_top (y := nI (n / 10)) (pk_div (a := n) (d := 10) (by omega) (by omega) (by omega)) ?_
  refine x_ialdN (j := n / 10) hf rfl (by omega) (by decide) dX5_has_8 ?_
  refine x_iload_n dX5_has_9 rfl ?_
  refine x_bipush (v := 10) dX5_has_10 (by decide) ?_
  refine x_irem dX5_has_12 (by decide) ?_
  refine x_top (y := nI (n % 10)) (pk_rem (a := n) (d := 10) (by omega) (by omega) (by omega)) ?_
  refine x_ishr dX5_has_13 ?_
  refine x_iconst (v := 1) dX5_has_14 (by decide) ?_
  refine x_iand dX5_has_15 ?_
  refine x_top (isRows_get hS hn) ?_
  refine x_if_eq 23 dX5_has_16 (by decide) (fun c_16 => ?_) (fun c_16 => ?_)
  · have c_16 := bi_f c_16
    refine x_iconst (v := 0) dX5_has_23 (by decide) ?_
    exact x_iret dX5_has_24 rfl rfl (Nat.le_refl _) (Nat.le_refl _) ⟨by rw [c_16]; rfl, rfl⟩
  · have c_16 := bi_t c_16
    refine x_iconst (v := 1) dX5_has_19 (by decide) ?_
    refine x_goto 24 dX5_has_20 (by decide) ?_
    exact x_iret dX5_has_24 rfl rfl (Nat.le_refl _) (Nat.le_refl _) ⟨by rw [c_16]; rfl, rfl⟩
set_option maxRecDepth 100000 in
set_option maxHeartbeats 4000000 in
theorem k_X5_turn {G : xG} {h : xHp} {a rw9 sp ch n : Nat} {b : Bool} {clk : Int32} {f : Nat → Int32} (hc : h.1 a = some (mC b rw9 sp ch clk)) (hf : h.1 rw9 = some (.inl (0, 100, .inl f))) (hn : n < 1000) : MX G mX5_turn 1 0 0 [.ref a, .int (nI n)] h (xVoid (xup h rw9 (.inl (0, 100, .inl (fRow f n))))) := by
  refine MX.of [(0, .ref a), (1, .int (nI n))] (by decide) rfl (Nat.le_of_ble_eq_true rfl) rfl ?_
  refine x_aload_n dX5_turn_0 rfl ?_
  refine x_get lf_X5_11 dX5_turn_1 hc rfl ?_
  refine x_iload_n dX5_turn_4 rfl ?_
  refine x_bipush (v := 10) dX5_turn_5 (by decide) ?_
  refine x_idiv dX5_turn_7 (by decide) ?_
  refine x_top (y := nI (n / 10)) (pk_div (a := n) (d := 10) (by omega) (by omega) (by omega)) ?_
  refine x_dup2 dX5_turn_8 rfl rfl ?_
  refine x_ialdN (j := n / 10) hf rfl (by omega) (by decide) dX5_turn_9 ?_
  refine x_iconst (v := 1) dX5_turn_10 (by decide) ?_
  refine x_iload_n dX5_turn_11 rfl ?_
  refine x_bipush (v := 10) dX5_turn_12 (by decide) ?_
  refine x_irem dX5_turn_14 (by decide) ?_
  refine x_top (y := nI (n % 10)) (pk_rem (a := n) (d := 10) (by omega) (by omega) (by omega)) ?_
  refine x_ishl dX5_turn_15 ?_
  refine x_ixor dX5_turn_16 ?_
  refine x_iastN (j := n / 10) hf rfl (by omega) (by decide) dX5_turn_17 ?_
  exact x_vret dX5_turn_18 rfl (Nat.le_refl _) (Nat.le_refl _) ⟨rfl, rfl⟩
abbrev bC (kn tn pl ly rs : Nat) (rc : Nat) (fr : Nat) (fc : Int32) : xCel := .inr (0, [.ref kn, .ref tn, .ref pl, .ref ly, .ref rs, .int (nI rc), .ref fr, .int fc])
def gNo (S : Nat → Bool) (r i : Nat) (g : Nat → Int32) : Nat → Int32 := fun k => if 10 * r ≤ k ∧ k < 10 * r + i ∧ S k = true then 0 else g k
theorem gNo_0 (S : Nat → Bool) (r : Nat) (g : Nat → Int32) : gNo S r 0 g = g := by
  funext k
  rw [gNo, if_neg (by omega)]
theorem gNo_t {S : Nat → Bool} {r i : Nat} {g : Nat → Int32} (h : S (10 * r + i) = true) : upd (gNo S r i g) (r * 10 + i) 0 = gNo S r (i + 1) g := by
  funext k
  simp only [gNo, upd]
  by_cases e : k = r * 10 + i
  · rw [if_pos e, if_pos ⟨by omega, by omega, by rw [e, Nat.mul_comm]; exact h⟩]
  · rw [if_neg e]
    by_cases q : 10 * r ≤ k ∧ k < 10 * r + i ∧ S k = true
    · rw [if_pos q, if_pos ⟨q.1, by omega, q.2.2⟩]
    · rw [if_neg q, if_neg (fun z => q ⟨z.1, by omega, z.2.2⟩)]
theorem gNo_f {S : Nat → Bool} {r i j : Nat} {g : Nat → Int32} (hij : i ≤ j) (h : ∀ q, i ≤ q → q < j → S (10 * r + q) = false) : gNo S r i g = gNo S r j g := by
  funext k
  simp only [gNo]
  by_cases q : 10 * r ≤ k ∧ k < 10 * r + i ∧ S k = true
  · rw [if_pos q, if_pos ⟨q.1, by omega, q.2.2⟩]
  · rw [if_neg q, if_neg]
    rintro ⟨z1, z2, z3⟩
    rcases Nat.lt_or_ge k (10 * r + i) with e | e
    · exact q ⟨z1, e, z3⟩
    · have h9 := h (k - 10 * r) (by omega) (by omega)
      rw [show 10 * r + (k - 10 * r) = k by omega, z3] at h9
      cases h9
theorem isRows_bit {f : Nat → Int32} {S : Nat → Bool} (h : isRows f S) {r i : Nat} (hr : r < 100) (hi : i < 10) : ((f r >>> (nI i &&& 31)) &&& 1) = bi (S (10 * r + i)) := by
  have h9 := isRows_get h (n := 10 * r + i) (by omega)
  rw [show (10 * r + i) / 10 = r by omega, show (10 * r + i) % 10 = i by omega] at h9
  exact h9
theorem isRows_no {f : Nat → Int32} {S : Nat → Bool} (h : isRows f S) {r i : Nat} (hr : r < 100) (hi : i < 10) (h0 : (f r >>> (nI i &&& 31)) = 0) : ∀ q, i ≤ q → q < 10 → S (10 * r + q) = false := by
  obtain ⟨m, h1, h2, h3⟩ := h r hr
  rw [h2] at h0
  intro q a b
  rw [← h3 q b]
  exact (b10_shr0 m h1 i hi).mp h0 q b a
set_option maxRecDepth 100000 in
set_option maxHeartbeats 4000000 in
theorem l_X5_setNoSteps {G : xG} {h : xHp} {a rw9 sp ch r : Nat} {b : Bool} {clk : Int32} {f g : Nat → Int32} {S : Nat → Bool} (hc : h.1 a = some (mC b rw9 sp ch clk)) (hf : h.1 rw9 = some (.inl (0, 100, .inl f))) (hg : h.1 sp = some (.inl (0, 1000, .inl g))) (hS : isRows f S) (hr : r < 100) (hd1 : rw9 ≠ sp) : ∀ (k i : Nat), i ≤ 10 → 11 ≤ i + k → Wx G mX5_setNoSteps (xRm 1 0 0) (xF G (xVoid (xup h sp (.inl (0, 1000, .inl (gNo S r 10 g))))) 0 0) 0 0 2 [(0, .ref a), (1, .int (nI r)), (2, .int (nI i))] [] (xup h sp (.inl (0, 1000, .inl (gNo S r i g)))) := by
  intro k
  induction k with
  | zero => exact fun i h1 h2 => absurd h2 (by omega)
  | succ k ih =>
    intro i hk hk2
    refine x_iload_n dX5_setNoSteps_2 rfl ?_
    refine x_bipush (v := 10) dX5_setNoSteps_3 (by decide) ?_
    refine x_icmp_ge 50 dX5_setNoSteps_5 (by decide) (fun c_5 => ?_) (fun c_5 => ?_)
    · rw [show (10 : Int32) = nI 10 from rfl, nI_leI (by omega) (by omega)] at c_5
      exact x_vret dX5_setNoSteps_50 rfl (Nat.le_refl _) (Nat.le_refl _) ⟨rfl, by first | rw [show i = 10 by omega] | rw [gNo_f (by omega) (isRows_no hS hr (by omega) c_16)]⟩
    · rw [show (10 : Int32) = nI 10 from rfl, nI_leI (by omega) (by omega)] at c_5
      refine x_aload_n dX5_setNoSteps_8 rfl ?_
      refine x_get lf_X5_11 dX5_setNoSteps_9 ((xup_ne (xne_oa hc hg)).trans hc) rfl ?_
      refine x_iload_n dX5_setNoSteps_12 rfl ?_
      refine x_ialdN (j := r) ((xup_ne hd1).trans hf) rfl (by omega) (by decide) dX5_setNoSteps_13 ?_
      refine x_iload_n dX5_setNoSteps_14 rfl ?_
      refine x_ishr dX5_setNoSteps_15 ?_
      refine x_if_eq 50 dX5_setNoSteps_16 (by decide) (fun c_16 => ?_) (fun c_16 => ?_)
      · exact x_vret dX5_setNoSteps_50 rfl (Nat.le_refl _) (Nat.le_refl _) ⟨rfl, by first | rw [show i = 10 by omega] | rw [gNo_f (by omega) (isRows_no hS hr (by omega) c_16)]⟩
      · refine x_aload_n dX5_setNoSteps_19 rfl ?_
        refine x_get lf_X5_11 dX5_setNoSteps_20 ((xup_ne (xne_oa hc hg)).trans hc) rfl ?_
        refine x_iload_n dX5_setNoSteps_23 rfl ?_
        refine x_ialdN (j := r) ((xup_ne hd1).trans hf) rfl (by omega) (by decide) dX5_setNoSteps_24 ?_
        refine x_iload_n dX5_setNoSteps_25 rfl ?_
        refine x_ishr dX5_setNoSteps_26 ?_
        refine x_iconst (v := 1) dX5_setNoSteps_27 (by decide) ?_
        refine x_iand dX5_setNoSteps_28 ?_
        refine x_top (isRows_bit hS hr (by omega)) ?_
        refine x_if_eq 44 dX5_setNoSteps_29 (by decide) (fun c_29 => ?_) (fun c_29 => ?_)
        · have c_29 := bi_f c_29
          refine x_iinc (v := nI (i + 1)) [(0, .ref a), (1, .int (nI r)), (2, .int (nI (i + 1)))] dX5_setNoSteps_44 rfl (nI_add i 1) (by decide) rfl rfl ?_
          refine x_goto 2 dX5_setNoSteps_47 (by decide) ?_
          exact x_heap (by first | rw [xup_up, gNo_t c_29] | rw [gNo_f (j := i + 1) (by omega) (fun q z1 z2 => by rw [show q = i by omega]; exact c_29)]) (ih (i + 1) (by omega) (by omega))
        · have c_29 := bi_t c_29
          refine x_aload_n dX5_setNoSteps_32 rfl ?_
          refine x_get lf_X5_17 dX5_setNoSteps_33 ((xup_ne (xne_oa hc hg)).trans hc) rfl ?_
          refine x_iload_n dX5_setNoSteps_36 rfl ?_
          refine x_bipush (v := 10) dX5_setNoSteps_37 (by decide) ?_
          refine x_imul dX5_setNoSteps_39 ?_
          refine x_top (y := nI (r * 10)) (pk_mul r 10) ?_
          refine x_iload_n dX5_setNoSteps_40 rfl ?_
          refine x_iadd dX5_setNoSteps_41 ?_
          refine x_top (y := nI ((r * 10) + i)) (nI_add (r * 10) i) ?_
          refine x_iconst (v := 0) dX5_setNoSteps_42 (by decide) ?_
          refine x_iastN (j := (r * 10) + i) (xup_self _ _ _) rfl (by omega) (by decide) dX5_setNoSteps_43 ?_
          refine x_iinc (v := nI (i + 1)) [(0, .ref a), (1, .int (nI r)), (2, .int (nI (i + 1)))] dX5_setNoSteps_44 rfl (nI_add i 1) (by decide) rfl rfl ?_
          refine x_goto 2 dX5_setNoSteps_47 (by decide) ?_
          exact x_heap (by first | rw [xup_up, gNo_t c_29] | rw [gNo_f (j := i + 1) (by omega) (fun q z1 z2 => by rw [show q = i by omega]; exact c_29)]) (ih (i + 1) (by omega) (by omega))
set_option maxRecDepth 100000 in
set_option maxHeartbeats 4000000 in
theorem k_X5_setNoSteps {G : xG} {h : xHp} {a rw9 sp ch r : Nat} {b : Bool} {clk : Int32} {f g : Nat → Int32} {S : Nat → Bool} (hc : h.1 a = some (mC b rw9 sp ch clk)) (hf : h.1 rw9 = some (.inl (0, 100, .inl f))) (hg : h.1 sp = some (.inl (0, 1000, .inl g))) (hS : isRows f S) (hr : r < 100) (hd1 : rw9 ≠ sp) : MX G mX5_setNoSteps 1 0 0 [.ref a, .int (nI r)] h (xVoid (xup h sp (.inl (0, 1000, .inl (gNo S r 10 g))))) := by
  refine MX.of [(0, .ref a), (1, .int (nI r))] (by decide) rfl (Nat.le_of_ble_eq_true rfl) rfl ?_
  refine x_iconst (v := 0) dX5_setNoSteps_0 (by decide) ?_
  refine x_istore_n [(0, .ref a), (1, .int (nI r)), (2, .int 0)] dX5_setNoSteps_1 (by decide) rfl rfl ?_
  exact x_heap (by rw [gNo_0, xup_id hg]) (l_X5_setNoSteps hc hf hg hS hr hd1 11 0 (by omega) (by omega))
