/-! the reference: feed -/
theorem b255_hi {i : Nat} (h : ¬ i < 8) (hi : i < 32) : (255 : Int32).toBitVec.getLsbD i = false := by
  have : ∀ j : Fin 32, ¬ j.val < 8 → (255 : Int32).toBitVec.getLsbD j.val = false := by decide +kernel
  exact this ⟨i, hi⟩ h
theorem b8_low (x : Int32) : x.toInt8.toInt32 &&& 255 = x &&& 255 := by
  apply Int32.toBitVec_inj.1
  apply BitVec.eq_of_getLsbD_eq
  intro i hi
  show (x.toInt8.toInt32.toBitVec &&& (255 : Int32).toBitVec).getLsbD i = (x.toBitVec &&& (255 : Int32).toBitVec).getLsbD i
  rw [BitVec.getLsbD_and, BitVec.getLsbD_and]
  by_cases h : i < 8
  · congr 1
    first
      | (show ((x.toBitVec.signExtend 8).signExtend 32).getLsbD i = x.toBitVec.getLsbD i; rw [BitVec.getLsbD_signExtend, if_pos h, BitVec.getLsbD_signExtend, if_pos (by omega)]; simp [hi, h]; done)
      | (simp [hi, h, BitVec.getLsbD_signExtend, BitVec.getLsbD_setWidth]; done)
  · rw [b255_hi h hi, Bool.and_false, Bool.and_false]
theorem byt_key {v a b : Int32} {s : Nat} (hs : s ≤ 24) (ha : a.toBitVec = v.toBitVec.sshiftRight s) (hb : b.toBitVec = v.toBitVec >>> s) : a &&& 255 = b &&& 255 := by
  apply Int32.toBitVec_inj.1
  apply BitVec.eq_of_getLsbD_eq
  intro i hi
  show (a.toBitVec &&& (255 : Int32).toBitVec).getLsbD i = (b.toBitVec &&& (255 : Int32).toBitVec).getLsbD i
  rw [BitVec.getLsbD_and, BitVec.getLsbD_and]
  by_cases h : i < 8
  · congr 1
    rw [ha, hb, BitVec.getLsbD_sshiftRight, BitVec.getLsbD_ushiftRight]
    simp [show s + i < 32 by omega]
    omega
  · rw [b255_hi h hi, Bool.and_false, Bool.and_false]
theorem byt_sr (v : Int32) : ∀ j, j < 4 → (v >>> (nI (24 - 8 * j) &&& 31)) &&& 255 = byt v j
  | 0, _ => byt_key (s := 24) (by omega) rfl rfl
  | 1, _ => byt_key (s := 16) (by omega) rfl rfl
  | 2, _ => byt_key (s := 8) (by omega) rfl rfl
  | 3, _ => byt_key (s := 0) (by omega) rfl rfl
  | j + 4, h => absurd h (by omega)
def pk5 (a b c d e : Int32) (i : Nat) : Int32 := if i < 4 then a else if i < 8 then b else if i < 12 then c else if i < 16 then d else e
def FD (h0 : xHp) (g0 : Nat → Int32) (ar0 : Nat → Nat → Int32) (tsz : Nat) (a b c d e : Int32) (i : Nat) (h : xHp) (g : Nat → Int32) (w : Int64) (nw : Value) (ar : Nat → Nat → Int32) (tw kw : Nat → Int64) (rf : Nat → Option Nat) : Prop := MH h g w nw ar tw kw rf ∧ g 18 = nI (tsz + i) ∧ (g 0 = 0 ∧ ∀ j, j ≠ 0 → j ≠ 18 → g j = g0 j) ∧ (∀ c, c ≠ 216 → ar c = ar0 c) ∧ (∀ k, k < tsz → ar 216 k = ar0 216 k) ∧ (∀ k, k < i → ar 216 (tsz + k) &&& 255 = byt (pk5 a b c d e k) (k % 4)) ∧ yfr h0 h
set_option maxRecDepth 100000 in
set_option maxHeartbeats 4000000 in
theorem l_X14_feed {G : xG} {h0 : xHp} {g0 : Nat → Int32} {w : Int64} {nw : Value} {ar0 : Nat → Nat → Int32} {tw kw : Nat → Int64} {rf : Nat → Option Nat} {tsz : Nat} {a9 b9 c9 d9 e9 : Int32} (ht : tsz ≤ 380) : ∀ (m i : Nat) {h : xHp} {g : Nat → Int32} {ar : Nat → Nat → Int32}, i ≤ 20 → 21 ≤ i + m → FD h0 g0 ar0 tsz a9 b9 c9 d9 e9 i h g w nw ar tw kw rf → Wx G mX14_feed (xRm 1 0 0) (xF G (fun o h' => (380 < tsz ∧ o = .inl (some (.int (-1))) ∧ yfr h0 h' ∧ MH h' (upd g0 0 0) w nw ar0 tw kw rf) ∨ (tsz ≤ 380 ∧ o = .inl (some (.int (nI (tsz + 20)))) ∧ ∃ g' ar', FD h0 g0 ar0 tsz a9 b9 c9 d9 e9 20 h' g' w nw ar' tw kw rf)) 0 0) 0 0 23 [(0, .ref 205), (1, .int a9), (2, .int b9), (3, .int c9), (4, .int d9), (5, .int e9), (6, .int (nI i))] [] h := by
  intro m
  induction m with
  | zero => exact fun i {h} {g} {ar} h1 h2 => absurd h2 (by omega)
  | succ m ih =>
    intro i h g ar hi him T
    obtain ⟨M, g18, gk, ak, al, ab, Y⟩ := id T
    refine x_iload dX14_feed_23 rfl ?_
    refine x_bipush (v := 20) dX14_feed_25 (by decide) ?_
    refine x_icmp_ge 117 dX14_feed_27 (by decide) (fun c_27 => ?_) (fun c_27 => ?_)
    · rw [show (20 : Int32) = nI 20 from rfl, nI_leI (by omega) (by omega)] at c_27
      refine x_aload_n dX14_feed_117 rfl ?_
      refine x_get lf_X14_211 dX14_feed_118 M.o rfl ?_
      exact x_iret dX14_feed_121 rfl rfl (Nat.le_refl _) (Nat.le_refl _) (Or.inr ⟨ht, by rw [g18, show i = 20 by omega], g, ar, by rw [← show i = 20 by omega]; exact T⟩)
    · rw [show (20 : Int32) = nI 20 from rfl, nI_leI (by omega) (by omega)] at c_27
      refine x_iload dX14_feed_30 rfl ?_
      refine x_iconst (v := 4) dX14_feed_32 (by decide) ?_
      refine x_icmp_ge 40 dX14_feed_33 (by decide) (fun c_33 => ?_) (fun c_33 => ?_)
      · rw [show (4 : Int32) = nI 4 from rfl, nI_leI (by omega) (by omega)] at c_33
        refine x_iload dX14_feed_40 rfl ?_
        refine x_bipush (v := 8) dX14_feed_42 (by decide) ?_
        refine x_icmp_ge 51 dX14_feed_44 (by decide) (fun c_44 => ?_) (fun c_44 => ?_)
        · rw [show (8 : Int32) = nI 8 from rfl, nI_leI (by omega) (by omega)] at c_44
          refine x_iload dX14_feed_51 rfl ?_
          refine x_bipush (v := 12) dX14_feed_53 (by decide) ?_
          refine x_icmp_ge 62 dX14_feed_55 (by decide) (fun c_55 => ?_) (fun c_55 => ?_)
          · rw [show (12 : Int32) = nI 12 from rfl, nI_leI (by omega) (by omega)] at c_55
            refine x_iload dX14_feed_62 rfl ?_
            refine x_bipush (v := 16) dX14_feed_64 (by decide) ?_
            refine x_icmp_ge 74 dX14_feed_66 (by decide) (fun c_66 => ?_) (fun c_66 => ?_)
            · rw [show (16 : Int32) = nI 16 from rfl, nI_leI (by omega) (by omega)] at c_66
              refine x_iload dX14_feed_74 rfl ?_
              refine x_istore [(0, .ref 205), (1, .int a9), (2, .int b9), (3, .int c9), (4, .int d9), (5, .int e9), (6, .int (nI i)), (7, .int e9)] dX14_feed_76 (by decide) rfl rfl ?_
              refine x_aload_n dX14_feed_78 rfl ?_
              refine x_get lf_X14_53 dX14_feed_79 M.o rfl ?_
              refine x_aload_n dX14_feed_82 rfl ?_
              refine x_get lf_X14_211 dX14_feed_83 M.o rfl ?_
              refine x_top (y := nI (tsz + i)) g18 ?_
              refine x_iload dX14_feed_86 rfl ?_
              refine x_bipush (v := 24) dX14_feed_88 (by decide) ?_
              refine x_bipush (v := 8) dX14_feed_90 (by decide) ?_
              refine x_iload dX14_feed_92 rfl ?_
              refine x_iconst (v := 4) dX14_feed_94 (by decide) ?_
              refine x_irem dX14_feed_95 (by decide) ?_
              refine x_top (y := nI (i % 4)) (pk_rem (a := i) (d := 4) (by omega) (by omega) (by omega)) ?_
              refine x_imul dX14_feed_96 ?_
              refine x_top (y := nI (8 * (i % 4))) (pk_mul 8 (i % 4)) ?_
              refine x_isub dX14_feed_97 ?_
              refine x_top (y := nI (24 - (8 * (i % 4)))) (pk_sub (a := 24) (b := 8 * (i % 4)) (by omega)) ?_
              refine x_ishr dX14_feed_98 ?_
              refine x_i2b dX14_feed_99 ?_
              refine x_bastN (j := tsz + i) (M.a 216 2 400 rfl) rfl (by omega) (by decide) dX14_feed_100 ?_
              refine x_aload_n dX14_feed_101 rfl ?_
              refine x_dup dX14_feed_102 rfl ?_
              refine x_get lf_X14_211 dX14_feed_103 ((xup_ne (by omega)).trans M.o) rfl ?_
              refine x_top (y := nI (tsz + i)) g18 ?_
              refine x_iconst (v := 1) dX14_feed_106 (by decide) ?_
              refine x_iadd dX14_feed_107 ?_
              refine x_top (y := nI ((tsz + i) + 1)) (nI_add (tsz + i) 1) ?_
              refine x_put (mL (upd g 18 (nI ((tsz + i) + 1))) w nw) lf_X14_211 dX14_feed_108 ((xup_ne (by omega)).trans M.o) (Nat.le_of_ble_eq_true rfl) rfl rfl rfl ?_
              refine x_iinc (v := nI (i + 1)) [(0, .ref 205), (1, .int a9), (2, .int b9), (3, .int c9), (4, .int d9), (5, .int e9), (6, .int (nI (i + 1))), (7, .int e9)] dX14_feed_111 rfl (nI_add i 1) (by decide) rfl rfl ?_
              refine x_goto 23 dX14_feed_114 (by decide) ?_
              have hpk : pk5 a9 b9 c9 d9 e9 i = e9 := by unfold pk5; rw [if_neg (by omega)]; rw [if_neg (by omega)]; rw [if_neg (by omega)]; rw [if_neg (by omega)]
              refine x_ls _ [0, 1, 2, 3, 4, 5, 6] rfl (ih (i + 1) (by omega) (by omega) ⟨((M.a9 (c := 216) rfl (upd (ar 216) (tsz + i) ((e9 >>> ((nI (24 - (8 * (i % 4)))) &&& 31)).toInt8.toInt32).toInt8.toInt32)).g9 (upd g 18 (nI ((tsz + i) + 1))) w nw), upd_at9, ⟨(upd_nq (by decide)).trans gk.1, fun j h1 h2 => (upd_nq h2).trans (gk.2 j h1 h2)⟩, fun c hc => (apF_ne hc).trans (ak c hc), fun k hk => by rw [apF_at, upd_nq (by omega)]; exact al k hk, fun k hk => ?_, Y.tr (((yfr_rf _).up (by decide)).up (by decide))⟩)
              rw [apF_at]
              by_cases e : k = i
              · rw [e, upd_at9, b8_low, b8_low, hpk]; exact byt_sr _ _ (Nat.mod_lt _ (by omega))
              · rw [upd_nq (by omega)]; exact ab k (by omega)
            · rw [show (16 : Int32) = nI 16 from rfl, nI_leI (by omega) (by omega)] at c_66
              refine x_iload dX14_feed_69 rfl ?_
              refine x_goto 76 dX14_feed_71 (by decide) ?_
              refine x_istore [(0, .ref 205), (1, .int a9), (2, .int b9), (3, .int c9), (4, .int d9), (5, .int e9), (6, .int (nI i)), (7, .int d9)] dX14_feed_76 (by decide) rfl rfl ?_
              refine x_aload_n dX14_feed_78 rfl ?_
              refine x_get lf_X14_53 dX14_feed_79 M.o rfl ?_
              refine x_aload_n dX14_feed_82 rfl ?_
              refine x_get lf_X14_211 dX14_feed_83 M.o rfl ?_
              refine x_top (y := nI (tsz + i)) g18 ?_
              refine x_iload dX14_feed_86 rfl ?_
              refine x_bipush (v := 24) dX14_feed_88 (by decide) ?_
              refine x_bipush (v := 8) dX14_feed_90 (by decide) ?_
              refine x_iload dX14_feed_92 rfl ?_
              refine x_iconst (v := 4) dX14_feed_94 (by decide) ?_
              refine x_irem dX14_feed_95 (by decide) ?_
              refine x_top (y := nI (i % 4)) (pk_rem (a := i) (d := 4) (by omega) (by omega) (by omega)) ?_
              refine x_imul dX14_feed_96 ?_
              refine x_top (y := nI (8 * (i % 4))) (pk_mul 8 (i % 4)) ?_
              refine x_isub dX14_feed_97 ?_
              refine x_top (y := nI (24 - (8 * (i % 4)))) (pk_sub (a := 24) (b := 8 * (i % 4)) (by omega)) ?_
              refine x_ishr dX14_feed_98 ?_
              refine x_i2b dX14_feed_99 ?_
              refine x_bastN (j := tsz + i) (M.a 216 2 400 rfl) rfl (by omega) (by decide) dX14_feed_100 ?_
              refine x_aload_n dX14_feed_101 rfl ?_
              refine x_dup dX14_feed_102 rfl ?_
              refine x_get lf_X14_211 dX14_feed_103 ((xup_ne (by omega)).trans M.o) rfl ?_
              refine x_top (y := nI (tsz + i)) g18 ?_
              refine x_iconst (v := 1) dX14_feed_106 (by decide) ?_
              refine x_iadd dX14_feed_107 ?_
              refine x_top (y := nI ((tsz + i) + 1)) (nI_add (tsz + i) 1) ?_
              refine x_put (mL (upd g 18 (nI ((tsz + i) + 1))) w nw) lf_X14_211 dX14_feed_108 ((xup_ne (by omega)).trans M.o) (Nat.le_of_ble_eq_true rfl) rfl rfl rfl ?_
              refine x_iinc (v := nI (i + 1)) [(0, .ref 205), (1, .int a9), (2, .int b9), (3, .int c9), (4, .int d9), (5, .int e9), (6, .int (nI (i + 1))), (7, .int d9)] dX14_feed_111 rfl (nI_add i 1) (by decide) rfl rfl ?_
              refine x_goto 23 dX14_feed_114 (by decide) ?_
              have hpk : pk5 a9 b9 c9 d9 e9 i = d9 := by unfold pk5; rw [if_neg (by omega)]; rw [if_neg (by omega)]; rw [if_neg (by omega)]; rw [if_pos (by omega)]
              refine x_ls _ [0, 1, 2, 3, 4, 5, 6] rfl (ih (i + 1) (by omega) (by omega) ⟨((M.a9 (c := 216) rfl (upd (ar 216) (tsz + i) ((d9 >>> ((nI (24 - (8 * (i % 4)))) &&& 31)).toInt8.toInt32).toInt8.toInt32)).g9 (upd g 18 (nI ((tsz + i) + 1))) w nw), upd_at9, ⟨(upd_nq (by decide)).trans gk.1, fun j h1 h2 => (upd_nq h2).trans (gk.2 j h1 h2)⟩, fun c hc => (apF_ne hc).trans (ak c hc), fun k hk => by rw [apF_at, upd_nq (by omega)]; exact al k hk, fun k hk => ?_, Y.tr (((yfr_rf _).up (by decide)).up (by decide))⟩)
              rw [apF_at]
              by_cases e : k = i
              · rw [e, upd_at9, b8_low, b8_low, hpk]; exact byt_sr _ _ (Nat.mod_lt _ (by omega))
              · rw [upd_nq (by omega)]; exact ab k (by omega)
          · rw [show (12 : Int32) = nI 12 from rfl, nI_leI (by omega) (by omega)] at c_55
            refine x_iload_n dX14_feed_58 rfl ?_
            refine x_goto 76 dX14_feed_59 (by decide) ?_
            refine x_istore [(0, .ref 205), (1, .int a9), (2, .int b9), (3, .int c9), (4, .int d9), (5, .int e9), (6, .int (nI i)), (7, .int c9)] dX14_feed_76 (by decide) rfl rfl ?_
            refine x_aload_n dX14_feed_78 rfl ?_
            refine x_get lf_X14_53 dX14_feed_79 M.o rfl ?_
            refine x_aload_n dX14_feed_82 rfl ?_
            refine x_get lf_X14_211 dX14_feed_83 M.o rfl ?_
            refine x_top (y := nI (tsz + i)) g18 ?_
            refine x_iload dX14_feed_86 rfl ?_
            refine x_bipush (v := 24) dX14_feed_88 (by decide) ?_
            refine x_bipush (v := 8) dX14_feed_90 (by decide) ?_
            refine x_iload dX14_feed_92 rfl ?_
            refine x_iconst (v := 4) dX14_feed_94 (by decide) ?_
            refine x_irem dX14_feed_95 (by decide) ?_
            refine x_top (y := nI (i % 4)) (pk_rem (a := i) (d := 4) (by omega) (by omega) (by omega)) ?_
            refine x_imul dX14_feed_96 ?_
            refine x_top (y := nI (8 * (i % 4))) (pk_mul 8 (i % 4)) ?_
            refine x_isub dX14_feed_97 ?_
            refine x_top (y := nI (24 - (8 * (i % 4)))) (pk_sub (a := 24) (b := 8 * (i % 4)) (by omega)) ?_
            refine x_ishr dX14_feed_98 ?_
            refine x_i2b dX14_feed_99 ?_
            refine x_bastN (j := tsz + i) (M.a 216 2 400 rfl) rfl (by omega) (by decide) dX14_feed_100 ?_
            refine x_aload_n dX14_feed_101 rfl ?_
            refine x_dup dX14_feed_102 rfl ?_
            refine x_get lf_X14_211 dX14_feed_103 ((xup_ne (by omega)).trans M.o) rfl ?_
            refine x_top (y := nI (tsz + i)) g18 ?_
            refine x_iconst (v := 1) dX14_feed_106 (by decide) ?_
            refine x_iadd dX14_feed_107 ?_
            refine x_top (y := nI ((tsz + i) + 1)) (nI_add (tsz + i) 1) ?_
            refine x_put (mL (upd g 18 (nI ((tsz + i) + 1))) w nw) lf_X14_211 dX14_feed_108 ((xup_ne (by omega)).trans M.o) (Nat.le_of_ble_eq_true rfl) rfl rfl rfl ?_
            refine x_iinc (v := nI (i + 1)) [(0, .ref 205), (1, .int a9), (2, .int b9), (3, .int c9), (4, .int d9), (5, .int e9), (6, .int (nI (i + 1))), (7, .int c9)] dX14_feed_111 rfl (nI_add i 1) (by decide) rfl rfl ?_
            refine x_goto 23 dX14_feed_114 (by decide) ?_
            have hpk : pk5 a9 b9 c9 d9 e9 i = c9 := by unfold pk5; rw [if_neg (by omega)]; rw [if_neg (by omega)]; rw [if_pos (by omega)]
            refine x_ls _ [0, 1, 2, 3, 4, 5, 6] rfl (ih (i + 1) (by omega) (by omega) ⟨((M.a9 (c := 216) rfl (upd (ar 216) (tsz + i) ((c9 >>> ((nI (24 - (8 * (i % 4)))) &&& 31)).toInt8.toInt32).toInt8.toInt32)).g9 (upd g 18 (nI ((tsz + i) + 1))) w nw), upd_at9, ⟨(upd_nq (by decide)).trans gk.1, fun j h1 h2 => (upd_nq h2).trans (gk.2 j h1 h2)⟩, fun c hc => (apF_ne hc).trans (ak c hc), fun k hk => by rw [apF_at, upd_nq (by omega)]; exact al k hk, fun k hk => ?_, Y.tr (((yfr_rf _).up (by decide)).up (by decide))⟩)
            rw [apF_at]
            by_cases e : k = i
            · rw [e, upd_at9, b8_low, b8_low, hpk]; exact byt_sr _ _ (Nat.mod_lt _ (by omega))
            · rw [upd_nq (by omega)]; exact ab k (by omega)
        · rw [show (8 : Int32) = nI 8 from rfl, nI_leI (by omega) (by omega)] at c_44
          refine x_iload_n dX14_feed_47 rfl ?_
          refine x_goto 76 dX14_feed_48 (by decide) ?_
          refine x_istore [(0, .ref 205), (1, .int a9), (2, .int b9), (3, .int c9), (4, .int d9), (5, .int e9), (6, .int (nI i)), (7, .int b9)] dX14_feed_76 (by decide) rfl rfl ?_
          refine x_aload_n dX14_feed_78 rfl ?_
          refine x_get lf_X14_53 dX14_feed_79 M.o rfl ?_
          refine x_aload_n dX14_feed_82 rfl ?_
          refine x_get lf_X14_211 dX14_feed_83 M.o rfl ?_
          refine x_top (y := nI (tsz + i)) g18 ?_
          refine x_iload dX14_feed_86 rfl ?_
          refine x_bipush (v := 24) dX14_feed_88 (by decide) ?_
          refine x_bipush (v := 8) dX14_feed_90 (by decide) ?_
          refine x_iload dX14_feed_92 rfl ?_
          refine x_iconst (v := 4) dX14_feed_94 (by decide) ?_
          refine x_irem dX14_feed_95 (by decide) ?_
          refine x_top (y := nI (i % 4)) (pk_rem (a := i) (d := 4) (by omega) (by omega) (by omega)) ?_
          refine x_imul dX14_feed_96 ?_
          refine x_top (y := nI (8 * (i % 4))) (pk_mul 8 (i % 4)) ?_
          refine x_isub dX14_feed_97 ?_
          refine x_top (y := nI (24 - (8 * (i % 4)))) (pk_sub (a := 24) (b := 8 * (i % 4)) (by omega)) ?_
          refine x_ishr dX14_feed_98 ?_
          refine x_i2b dX14_feed_99 ?_
          refine x_bastN (j := tsz + i) (M.a 216 2 400 rfl) rfl (by omega) (by decide) dX14_feed_100 ?_
          refine x_aload_n dX14_feed_101 rfl ?_
          refine x_dup dX14_feed_102 rfl ?_
          refine x_get lf_X14_211 dX14_feed_103 ((xup_ne (by omega)).trans M.o) rfl ?_
          refine x_top (y := nI (tsz + i)) g18 ?_
          refine x_iconst (v := 1) dX14_feed_106 (by decide) ?_
          refine x_iadd dX14_feed_107 ?_
          refine x_top (y := nI ((tsz + i) + 1)) (nI_add (tsz + i) 1) ?_
          refine x_put (mL (upd g 18 (nI ((tsz + i) + 1))) w nw) lf_X14_211 dX14_feed_108 ((xup_ne (by omega)).trans M.o) (Nat.le_of_ble_eq_true rfl) rfl rfl rfl ?_
          refine x_iinc (v := nI (i + 1)) [(0, .ref 205), (1, .int a9), (2, .int b9), (3, .int c9), (4, .int d9), (5, .int e9), (6, .int (nI (i + 1))), (7, .int b9)] dX14_feed_111 rfl (nI_add i 1) (by decide) rfl rfl ?_
          refine x_goto 23 dX14_feed_114 (by decide) ?_
          have hpk : pk5 a9 b9 c9 d9 e9 i = b9 := by unfold pk5; rw [if_neg (by omega)]; rw [if_pos (by omega)]
          refine x_ls _ [0, 1, 2, 3, 4, 5, 6] rfl (ih (i + 1) (by omega) (by omega) ⟨((M.a9 (c := 216) rfl (upd (ar 216) (tsz + i) ((b9 >>> ((nI (24 - (8 * (i % 4)))) &&& 31)).toInt8.toInt32).toInt8.toInt32)).g9 (upd g 18 (nI ((tsz + i) + 1))) w nw), upd_at9, ⟨(upd_nq (by decide)).trans gk.1, fun j h1 h2 => (upd_nq h2).trans (gk.2 j h1 h2)⟩, fun c hc => (apF_ne hc).trans (ak c hc), fun k hk => by rw [apF_at, upd_nq (by omega)]; exact al k hk, fun k hk => ?_, Y.tr (((yfr_rf _).up (by decide)).up (by decide))⟩)
          rw [apF_at]
          by_cases e : k = i
          · rw [e, upd_at9, b8_low, b8_low, hpk]; exact byt_sr _ _ (Nat.mod_lt _ (by omega))
          · rw [upd_nq (by omega)]; exact ab k (by omega)
      · rw [show (4 : Int32) = nI 4 from rfl, nI_leI (by omega) (by omega)] at c_33
        refine x_iload_n dX14_feed_36 rfl ?_
        refine x_goto 76 dX14_feed_37 (by decide) ?_
        refine x_istore [(0, .ref 205), (1, .int a9), (2, .int b9), (3, .int c9), (4, .int d9), (5, .int e9), (6, .int (nI i)), (7, .int a9)] dX14_feed_76 (by decide) rfl rfl ?_
        refine x_aload_n dX14_feed_78 rfl ?_
        refine x_get lf_X14_53 dX14_feed_79 M.o rfl ?_
        refine x_aload_n dX14_feed_82 rfl ?_
        refine x_get lf_X14_211 dX14_feed_83 M.o rfl ?_
        refine x_top (y := nI (tsz + i)) g18 ?_
        refine x_iload dX14_feed_86 rfl ?_
        refine x_bipush (v := 24) dX14_feed_88 (by decide) ?_
        refine x_bipush (v := 8) dX14_feed_90 (by decide) ?_
        refine x_iload dX14_feed_92 rfl ?_
        refine x_iconst (v := 4) dX14_feed_94 (by decide) ?_
        refine x_irem dX14_feed_95 (by decide) ?_
        refine x_top (y := nI (i % 4)) (pk_rem (a := i) (d := 4) (by omega) (by omega) (by omega)) ?_
        refine x_imul dX14_feed_96 ?_
        refine x_top (y := nI (8 * (i % 4))) (pk_mul 8 (i % 4)) ?_
        refine x_isub dX14_feed_97 ?_
        refine x_top (y := nI (24 - (8 * (i % 4)))) (pk_sub (a := 24) (b := 8 * (i % 4)) (by omega)) ?_
        refine x_ishr dX14_feed_98 ?_
        refine x_i2b dX14_feed_99 ?_
        refine x_bastN (j := tsz + i) (M.a 216 2 400 rfl) rfl (by omega) (by decide) dX14_feed_100 ?_
        refine x_aload_n dX14_feed_101 rfl ?_
        refine x_dup dX14_feed_102 rfl ?_
        refine x_get lf_X14_211 dX14_feed_103 ((xup_ne (by omega)).trans M.o) rfl ?_
        refine x_top (y := nI (tsz + i)) g18 ?_
        refine x_iconst (v := 1) dX14_feed_106 (by decide) ?_
        refine x_iadd dX14_feed_107 ?_
        refine x_top (y := nI ((tsz + i) + 1)) (nI_add (tsz + i) 1) ?_
        refine x_put (mL (upd g 18 (nI ((tsz + i) + 1))) w nw) lf_X14_211 dX14_feed_108 ((xup_ne (by omega)).trans M.o) (Nat.le_of_ble_eq_true rfl) rfl rfl rfl ?_
        refine x_iinc (v := nI (i + 1)) [(0, .ref 205), (1, .int a9), (2, .int b9), (3, .int c9), (4, .int d9), (5, .int e9), (6, .int (nI (i + 1))), (7, .int a9)] dX14_feed_111 rfl (nI_add i 1) (by decide) rfl rfl ?_
        refine x_goto 23 dX14_feed_114 (by decide) ?_
        have hpk : pk5 a9 b9 c9 d9 e9 i = a9 := by unfold pk5; rw [if_pos (by omega)]
        refine x_ls _ [0, 1, 2, 3, 4, 5, 6] rfl (ih (i + 1) (by omega) (by omega) ⟨((M.a9 (c := 216) rfl (upd (ar 216) (tsz + i) ((a9 >>> ((nI (24 - (8 * (i % 4)))) &&& 31)).toInt8.toInt32).toInt8.toInt32)).g9 (upd g 18 (nI ((tsz + i) + 1))) w nw), upd_at9, ⟨(upd_nq (by decide)).trans gk.1, fun j h1 h2 => (upd_nq h2).trans (gk.2 j h1 h2)⟩, fun c hc => (apF_ne hc).trans (ak c hc), fun k hk => by rw [apF_at, upd_nq (by omega)]; exact al k hk, fun k hk => ?_, Y.tr (((yfr_rf _).up (by decide)).up (by decide))⟩)
        rw [apF_at]
        by_cases e : k = i
        · rw [e, upd_at9, b8_low, b8_low, hpk]; exact byt_sr _ _ (Nat.mod_lt _ (by omega))
        · rw [upd_nq (by omega)]; exact ab k (by omega)
set_option maxRecDepth 100000 in
set_option maxHeartbeats 4000000 in
theorem k_X14_feed {G : xG} {h0 : xHp} {g0 : Nat → Int32} {w : Int64} {nw : Value} {ar0 : Nat → Nat → Int32} {tw kw : Nat → Int64} {rf : Nat → Option Nat} (M : MH h0 g0 w nw ar0 tw kw rf) {tsz : Nat} {a9 b9 c9 d9 e9 : Int32} (htz : tsz ≤ 400) (h18 : g0 18 = nI tsz) : MX G mX14_feed 1 0 0 [.ref 205, .int a9, .int b9, .int c9, .int d9, .int e9] h0 (fun o h' => (380 < tsz ∧ o = .inl (some (.int (-1))) ∧ yfr h0 h' ∧ MH h' (upd g0 0 0) w nw ar0 tw kw rf) ∨ (tsz ≤ 380 ∧ o = .inl (some (.int (nI (tsz + 20)))) ∧ ∃ g' ar', FD h0 g0 ar0 tsz a9 b9 c9 d9 e9 20 h' g' w nw ar' tw kw rf)) := by
  refine MX.of [(0, .ref 205), (1, .int a9), (2, .int b9), (3, .int c9), (4, .int d9), (5, .int e9)] (by decide) rfl (Nat.le_of_ble_eq_true rfl) rfl ?_
  refine x_aload_n dX14_feed_0 rfl ?_
  refine x_iconst (v := 0) dX14_feed_1 (by decide) ?_
  refine x_put (mL (upd g0 0 0) w nw) lf_X14_84 dX14_feed_2 M.o (Nat.le_of_ble_eq_true rfl) rfl rfl rfl ?_
  refine x_aload_n dX14_feed_5 rfl ?_
  refine x_get lf_X14_211 dX14_feed_6 (xup_self _ _ _) rfl ?_
  refine x_top (y := nI tsz) h18 ?_
  refine x_bipush (v := 20) dX14_feed_9 (by decide) ?_
  refine x_iadd dX14_feed_11 ?_
  refine x_top (y := nI (tsz + 20)) (nI_add tsz 20) ?_
  refine x_sipush (v := 400) dX14_feed_12 (by decide) ?_
  refine x_icmp_le 20 dX14_feed_15 (by decide) (fun c_15 => ?_) (fun c_15 => ?_)
  · rw [show (400 : Int32) = nI 400 from rfl, nI_leI (by omega) (by omega)] at c_15
    refine x_iconst (v := 0) dX14_feed_20 (by decide) ?_
    refine x_istore [(0, .ref 205), (1, .int a9), (2, .int b9), (3, .int c9), (4, .int d9), (5, .int e9), (6, .int 0)] dX14_feed_21 (by decide) rfl rfl ?_
    exact l_X14_feed (by omega) 21 0 (by omega) (by omega) ⟨(M.g9 (upd g0 0 0) w nw), (upd_nq (by decide)).trans h18, ⟨rfl, fun j h1 _ => upd_nq h1⟩, fun _ _ => rfl, fun _ _ => rfl, fun k hk => absurd hk (by omega), ((yfr_rf _).up (by decide))⟩
  · rw [show (400 : Int32) = nI 400 from rfl, nI_leI (by omega) (by omega)] at c_15
    refine x_iconst (v := (-1)) dX14_feed_18 (by decide) ?_
    exact x_iret dX14_feed_19 rfl rfl (Nat.le_refl _) (Nat.le_refl _) (Or.inl ⟨by omega, rfl, ((yfr_rf _).up (by decide)), (M.g9 (upd g0 0 0) w nw)⟩)
