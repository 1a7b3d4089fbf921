/-! the law: its loop, its beginning -/
theorem sw26 (x : Int32) : x = 0 ∨ x = 1 ∨ x = 2 ∨ x = 3 ∨ x = 4 ∨ x = 5 ∨ x = 6 ∨ x = 7 ∨ x = 8 ∨ x = 9 ∨ x = 10 ∨ x = 11 ∨ x = 12 ∨ x = 13 ∨ x = 14 ∨ x = 15 ∨ x = 16 ∨ x = 17 ∨ x = 18 ∨ x = 19 ∨ x = 20 ∨ x = 21 ∨ x = 22 ∨ x = 23 ∨ x = 24 ∨ x = 25 ∨ (x.toInt < 0 ∨ 25 < x.toInt) := by
  have e0 : (0 : Int32).toInt = 0 := by decide
  have e1 : (1 : Int32).toInt = 1 := by decide
  have e2 : (2 : Int32).toInt = 2 := by decide
  have e3 : (3 : Int32).toInt = 3 := by decide
  have e4 : (4 : Int32).toInt = 4 := by decide
  have e5 : (5 : Int32).toInt = 5 := by decide
  have e6 : (6 : Int32).toInt = 6 := by decide
  have e7 : (7 : Int32).toInt = 7 := by decide
  have e8 : (8 : Int32).toInt = 8 := by decide
  have e9 : (9 : Int32).toInt = 9 := by decide
  have e10 : (10 : Int32).toInt = 10 := by decide
  have e11 : (11 : Int32).toInt = 11 := by decide
  have e12 : (12 : Int32).toInt = 12 := by decide
  have e13 : (13 : Int32).toInt = 13 := by decide
  have e14 : (14 : Int32).toInt = 14 := by decide
  have e15 : (15 : Int32).toInt = 15 := by decide
  have e16 : (16 : Int32).toInt = 16 := by decide
  have e17 : (17 : Int32).toInt = 17 := by decide
  have e18 : (18 : Int32).toInt = 18 := by decide
  have e19 : (19 : Int32).toInt = 19 := by decide
  have e20 : (20 : Int32).toInt = 20 := by decide
  have e21 : (21 : Int32).toInt = 21 := by decide
  have e22 : (22 : Int32).toInt = 22 := by decide
  have e23 : (23 : Int32).toInt = 23 := by decide
  have e24 : (24 : Int32).toInt = 24 := by decide
  have e25 : (25 : Int32).toInt = 25 := by decide
  rw [fa_eq x 0, fa_eq x 1, fa_eq x 2, fa_eq x 3, fa_eq x 4, fa_eq x 5, fa_eq x 6, fa_eq x 7, fa_eq x 8, fa_eq x 9, fa_eq x 10, fa_eq x 11, fa_eq x 12, fa_eq x 13, fa_eq x 14, fa_eq x 15, fa_eq x 16, fa_eq x 17, fa_eq x 18, fa_eq x 19, fa_eq x 20, fa_eq x 21, fa_eq x 22, fa_eq x 23, fa_eq x 24, fa_eq x 25, e0, e1, e2, e3, e4, e5, e6, e7, e8, e9, e10, e11, e12, e13, e14, e15, e16, e17, e18, e19, e20, e21, e22, e23, e24, e25]
  omega
theorem sub6 {L i : Nat} (hL : L < 2 ^ 31) (hi : i < 2 ^ 31) : nI L - 6 < nI i ↔ L < i + 6 := by
  have e6 : (6 : Int32).toInt = 6 := by decide
  rw [Int32.lt_iff_toInt_lt, fb_subI (by rw [nI_toInt hL, e6]; omega) (by rw [nI_toInt hL, e6]; omega), nI_toInt hL, nI_toInt hi, e6]
  omega
set_option maxRecDepth 100000 in
set_option maxHeartbeats 4000000 in
theorem law_loop {G : xG} (hL : xLn G ≤ 3072) : ∀ (m j uc us : Nat) (h : xHp) (tsz : Nat), j ≤ 512 → 513 ≤ j + m → LI h tsz → uc + 3 * tsz ≤ 300 + 66 * j → us + 16 * tsz ≤ 11000 + 400 * j → Wx G mL_law room_1 (lawF G) uc us 23 [(0, .ref 0), (1, .ref 1), (2, .ref 205), (3, .ref 226), (4, .int (nI (6 * j)))] [] h := by
  intro m
  induction m with
  | zero => intro j uc us h tsz h1 h2; exact absurd h2 (by omega)
  | succ m ih =>
    intro j uc us h tsz hj1 hj2 I hu hv
    have hK0 : 6 * j + 6 ≤ xLn G → ∀ uc' us' h' tsz', LI h' tsz' → uc' + 3 * tsz' ≤ uc + 3 * tsz + 66 → us' + 16 * tsz' ≤ us + 16 * tsz + 400 → Wx G mL_law room_1 (lawF G) uc' us' 1009 [(0, .ref 0), (1, .ref 1), (2, .ref 205), (3, .ref 226), (4, .int (nI (6 * j)))] [] h' := by
      intro hj6 uc' us' h' tsz' I' b1 b2
      refine x_iinc (v := nI (6 * (j + 1))) [(0, .ref 0), (1, .ref 1), (2, .ref 205), (3, .ref 226), (4, .int (nI (6 * (j + 1))))] dL_law_1009 rfl (nI_add (6 * j) 6) (by decide) rfl rfl ?_
      refine x_goto 23 dL_law_1012 (by decide) ?_
      exact ih (j + 1) uc' us' h' tsz' (by omega) (by omega) I' (by omega) (by omega)
    refine x_iload dL_law_23 rfl ?_
    refine x_aload_n dL_law_25 rfl ?_
    refine x_slen dL_law_26 ?_
    refine x_bipush (v := 6) dL_law_27 (by decide) ?_
    refine x_isub dL_law_29 ?_
    refine x_icmp_gt 1015 dL_law_30 (by decide) (fun c_30 => ?_) (fun c_30 => ?_)
    · refine x_iconst (v := 1) dL_law_1015 (by decide) ?_
      exact x_lawEnd dL_law_1016 (by omega) (by omega)
    · have hj6 : 6 * j + 6 ≤ xLn G := by have := (not_congr (sub6 (L := xLn G) (i := 6 * j) (by omega) (by omega))).mp c_30; omega
      refine x_aload_n dL_law_33 rfl ?_
      refine x_iload dL_law_34 rfl ?_
      refine x_sld (vp_in_nI (by omega) (by omega)) dL_law_36 ?_
      refine x_top (y := xS G (6 * j)) (congrArg (xS G) (nI_clamp (by omega))) ?_
      refine x_bipush (v := 31) dL_law_37 (by decide) ?_
      refine x_iand dL_law_39 ?_
      have hK := hK0 hj6
      generalize xS G (6 * j) &&& 31 = x
      rcases sw26 x with rfl | rfl | rfl | rfl | rfl | rfl | rfl | rfl | rfl | rfl | rfl | rfl | rfl | rfl | rfl | rfl | rfl | rfl | rfl | rfl | rfl | rfl | rfl | rfl | rfl | rfl | e9
      · exact x_tswIn (off := 120) 160 dL_law_40 (by decide) (by decide) (by decide) (by decide) (cs_feed I hj6 hL hu hv hK)
      · exact x_tswIn (off := 193) 233 dL_law_40 (by decide) (by decide) (by decide) (by decide) (cs_tell I hj6 hL hu hv hK)
      · exact x_tswIn (off := 218) 258 dL_law_40 (by decide) (by decide) (by decide) (by decide) (cs_fault I hj6 hL hu hv hK)
      · exact x_tswIn (off := 231) 271 dL_law_40 (by decide) (by decide) (by decide) (by decide) (cs_where I hj6 hL hu hv hK)
      · exact x_tswIn (off := 244) 284 dL_law_40 (by decide) (by decide) (by decide) (by decide) (cs_atom I hj6 hL hu hv hK)
      · exact x_tswIn (off := 293) 333 dL_law_40 (by decide) (by decide) (by decide) (by decide) (cs_name I hj6 hL hu hv hK)
      · exact x_tswIn (off := 389) 429 dL_law_40 (by decide) (by decide) (by decide) (by decide) (cs_places I hj6 hL hu hv hK)
      · exact x_tswIn (off := 414) 454 dL_law_40 (by decide) (by decide) (by decide) (by decide) (cs_layer I hj6 hL hu hv hK)
      · exact x_tswIn (off := 439) 479 dL_law_40 (by decide) (by decide) (by decide) (by decide) (cs_fact I hj6 hL hu hv hK)
      · exact x_tswIn (off := 492) 532 dL_law_40 (by decide) (by decide) (by decide) (by decide) (cs_drop I hj6 hL hu hv hK)
      · exact x_tswIn (off := 517) 557 dL_law_40 (by decide) (by decide) (by decide) (by decide) (cs_follows I hj6 hL hu hv hK)
      · exact x_tswIn (off := 542) 582 dL_law_40 (by decide) (by decide) (by decide) (by decide) (cs_many I hj6 hL hu hv hK)
      · exact x_tswIn (off := 567) 607 dL_law_40 (by decide) (by decide) (by decide) (by decide) (cs_one I hj6 hL hu hv hK)
      · exact x_tswIn (off := 604) 644 dL_law_40 (by decide) (by decide) (by decide) (by decide) (cs_steps I hj6 hL hu hv hK)
      · exact x_tswIn (off := 629) 669 dL_law_40 (by decide) (by decide) (by decide) (by decide) (cs_why I hj6 hL hu hv hK)
      · exact x_tswIn (off := 654) 694 dL_law_40 (by decide) (by decide) (by decide) (by decide) (cs_because I hj6 hL hu hv hK)
      · exact x_tswIn (off := 679) 719 dL_law_40 (by decide) (by decide) (by decide) (by decide) (cs_comes I hj6 hL hu hv hK)
      · exact x_tswIn (off := 716) 756 dL_law_40 (by decide) (by decide) (by decide) (by decide) (cs_rule I hj6 hL hu hv hK)
      · exact x_tswIn (off := 753) 793 dL_law_40 (by decide) (by decide) (by decide) (by decide) (cs_term I hj6 hL hu hv hK)
      · exact x_tswIn (off := 802) 842 dL_law_40 (by decide) (by decide) (by decide) (by decide) (cs_go I hj6 hL hu hv hK)
      · exact x_tswIn (off := 827) 867 dL_law_40 (by decide) (by decide) (by decide) (by decide) (cs_gone I hj6 hL hu hv hK)
      · exact x_tswIn (off := 852) 892 dL_law_40 (by decide) (by decide) (by decide) (by decide) (cs_derived I hj6 hL hu hv hK)
      · exact x_tswIn (off := 865) 905 dL_law_40 (by decide) (by decide) (by decide) (by decide) (cs_deepest I hj6 hL hu hv hK)
      · exact x_tswIn (off := 878) 918 dL_law_40 (by decide) (by decide) (by decide) (by decide) (cs_turned I hj6 hL hu hv hK)
      · exact x_tswIn (off := 931) 971 dL_law_40 (by decide) (by decide) (by decide) (by decide) (cs_count I hj6 hL hu hv hK)
      · exact x_tswIn (off := 956) 996 dL_law_40 (by decide) (by decide) (by decide) (by decide) (cs_trouble I hj6 hL hu hv hK)
      · exact x_tswOut 1009 dL_law_40 e9 (by decide) (hK uc us h tsz I (by omega) (by omega))
def q0 : PQ := (0, fun _ => [], 0, fun _ => [], fun _ => 0)
theorem rows_0 : isRows (fun _ => 0) (fun _ => false) := fun r _ => ⟨0, by decide, rfl, fun j _ => Nat.zero_testBit j⟩
theorem LI_0 {h h1 : xHp} {o9 : Nat → Int64} (x : XH h 0 (fun _ => 0) 0 0 0 0 (fun _ => 0) (fun j => 13 + 8 * j) (fun _ => zV) (fun _ => 0) (fun _ => 0) (fun _ => 0) (fun _ => 0) 0 0 0 false (fun _ => 0) (fun _ => 0) 0 (fun _ => 0) 0 (fun _ => 0) 0) (hn : h.2 ≤ h1.2) (e : ∀ q, q < 205 → h1.1 q = h.1 q) (M : MH h1 (upd (fun _ => 0) 2 (-1)) 0 (.null) (fun _ _ => 0) (fun _ => 0) (fun _ => 0) (fun _ => none)) (h227 : 227 ≤ h1.2) (ho : h1.1 226 = some (.inl (1, 1, .inr (.inl o9)))) : LI h1 0 := by
  have X := (XT.of (ns := false) (s := fun _ => none) x).lt hn e
  refine ⟨0, q0, fun _ => zV, fun _ => false, fun _ => 0, 0, -1, 0, fun _ => 0, 0, fun _ => 0, 0, fun _ => none, fun _ => 0, ⟨⟨Nat.zero_le _, Nat.zero_le _, Nat.zero_le _, Nat.zero_le _, Nat.zero_le _, Nat.zero_le _⟩, fun r hr => absurd hr (Nat.not_lt_zero _), fun n _ z => (by cases z)⟩, ⟨_, _, _, _, _, _, _, _, _, _, X, fun k hk => absurd hk (Nat.not_lt_zero _), fun k hk => absurd hk (Nat.not_lt_zero _), fun j _ => ⟨rfl, (by decide : (0 : Nat) < 3)⟩, rows_0, ?_, fun k hk => absurd hk (Nat.not_lt_zero _), ⟨fun _ _ => rfl, fun _ => Nat.zero_le _, fun r hr => absurd hr (Nat.not_lt_zero _), fun S _ k _ => Nat.zero_le _⟩, rfl⟩, ⟨_, _, _, _, _, _, _, fun _ => 0, M, fun r hr => absurd hr (Nat.not_lt_zero _), ⟨fun k hk => absurd hk (Nat.not_lt_zero _), fun k hk => absurd hk (Nat.not_lt_zero _), fun j _ => ⟨rfl, (by decide : (0 : Nat) < 3)⟩, Nat.zero_le _, Nat.zero_le _⟩, fun j _ => rfl, ⟨Nat.zero_le _, fun i hi => absurd hi (Nat.not_lt_zero _)⟩, fun j _ => rfl, ⟨rfl, rfl, rfl⟩, ⟨rfl, rfl, rfl, rfl⟩, ⟨rfl, fun i hi => absurd hi (Nat.not_lt_zero _)⟩, rfl, fun i hi => absurd hi (Nat.not_lt_zero _)⟩, ⟨fun n _ z => (by cases z), fun r _ _ hr => absurd hr (Nat.not_lt_zero _), fun n d _ z => (by cases z)⟩, h227, o9, ho⟩
  have : fb_ct (fun _ => false) 1000 = 0 := fb_ct_zero.mpr (fun k _ => rfl)
  rw [this]; rfl
set_option maxRecDepth 100000 in
set_option maxHeartbeats 4000000 in
theorem MH.nwA {h : xHp} {g : Nat → Int32} {w : Int64} {nw : Value} {ar : Nat → Nat → Int32} {tw kw : Nat → Int64} {rf : Nat → Option Nat} {c : xCel} (M : MH h g w nw ar tw kw rf) : MH (xnwA h 226 c) g w nw ar tw kw rf := by
  have e : ∀ q, q < 226 → (xnwA h 226 c).1 q = h.1 q := fun q hq => xnwA_ne (by omega)
  exact ⟨(by show 226 ≤ 226 + 1; omega), (e _ (by omega)).trans M.o, (e _ (by omega)).trans M.t, (e _ (by omega)).trans M.k, (e _ (by omega)).trans M.r, (by obtain ⟨k, p, x⟩ := M.s; exact ⟨k, p, (e _ (by omega)).trans x⟩), fun d ty n x => (e d (by have := aT_in x; omega)).trans (M.a d ty n x)⟩
set_option maxRecDepth 100000 in
set_option maxHeartbeats 4000000 in
theorem law_all {G : xG} (hL : xLn G ≤ 3072) : Wx G mL_law room_1 (lawF G) 0 0 0 [(0, .ref 0)] [] (fun _ => none, 1) := by
  refine x_new [.null, .int 0, .null, .null, .null, .null, .null, .int 0, .null, .null, .null, .int 0, .int 0] xc11 ck_L_8 it_X11 in_X11 rfl (by decide) (by decide) dL_law_0 ?_
  refine x_nwA (a := 1) rfl ?_
  refine x_dup dL_law_3 rfl ?_
  refine x_callI (As := []) (st := [.ref 1]) li_L_15 (k_X11_init (xnwA_self _ _ _) rfl) (fun _ _ z => by cases z.1) dL_law_4 rfl rfl (Nat.le_of_ble_eq_true rfl) ⟨by decide, by decide⟩ ⟨by decide, by decide⟩ (fun v9 h1 z => ?_)
  obtain ⟨ev, hn1, x1⟩ := z
  cases ev
  refine x_astore_n [(0, .ref 0), (1, .ref 1)] dL_law_7 (by decide) rfl rfl ?_
  refine x_new [.int 0, .int 0, .int 0, .int 0, .int 0, .int 0, .int 0, .null, .null, .null, .null, .null, .null, .null, .null, .null, .null, .null, .int 0, .int 0, .int 0, .int 0, .int 0, .int 0, .int 0, .long 0, .null, .null, .int 0, .int 0, .int 0, .null, .null, .null, .int 0, .null, .int 0, .null, .null, .null, .null, .int 0, .int 0] xc14 ck_L_16 it_X14 in_X14 rfl (by decide) (by decide) dL_law_8 ?_
  refine x_nwA (a := 205) hn1 ?_
  refine x_dup dL_law_11 rfl ?_
  refine x_callI (As := []) (st := [.ref 205]) li_L_18 (k_X14_init (xnwA_self _ _ _) rfl) (fun _ _ z => by cases z.1) dL_law_12 rfl rfl (Nat.le_of_ble_eq_true rfl) ⟨by decide, by decide⟩ ⟨by decide, by decide⟩ (fun v9 h2 z => ?_)
  obtain ⟨ev, hn2, e2, M2⟩ := z
  cases ev
  refine x_astore_n [(0, .ref 0), (1, .ref 1), (2, .ref 205)] dL_law_15 (by decide) rfl rfl ?_
  refine x_iconst (v := 1) dL_law_16 (by decide) ?_
  refine x_newl (N := 1) ac_long (by decide) (by decide) (by decide) (by decide) (by decide) dL_law_17 ?_
  refine x_nwA (a := 226) hn2 ?_
  refine x_astore_n [(0, .ref 0), (1, .ref 1), (2, .ref 205), (3, .ref 226)] dL_law_19 (by decide) rfl rfl ?_
  refine x_iconst (v := 0) dL_law_20 (by decide) ?_
  refine x_istore [(0, .ref 0), (1, .ref 1), (2, .ref 205), (3, .ref 226), (4, .int 0)] dL_law_21 (by decide) rfl rfl ?_
  refine law_loop hL 513 0 _ _ _ 0 (by omega) (by omega) (LI_0 (o9 := fun _ => 0) x1 ?_ (fun q hq => ?_) M2.nwA ?_ (xnwA_self _ _ _)) (by decide) (by decide)
  · show h1.2 ≤ 226 + 1; omega
  · exact (xnwA_ne (by omega)).trans ((e2 q hq).trans (xnwA_ne (by omega)))
  · show 227 ≤ 226 + 1; omega
