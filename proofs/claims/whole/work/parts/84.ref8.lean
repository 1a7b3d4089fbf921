/-! the reference: readClause -/
/-- the place of the first that isn't bound -/
def fstU (B : Nat) : List (Nat × Int32) → Option Int32
  | [] => none
  | (s, p) :: l => if B.testBit s = true then fstU B l else some p
theorem fstU_app (B : Nat) : ∀ l m, fstU B (l ++ m) = (match fstU B l with | none => fstU B m | some p => some p)
  | [], m => rfl
  | (s, p) :: l, m => by
    show (if B.testBit s = true then fstU B (l ++ m) else some p) = _
    by_cases c : B.testBit s = true
    · rw [if_pos c, fstU_app B l m]
      show _ = (match (if B.testBit s = true then fstU B l else some p) with | none => fstU B m | some p => some p)
      rw [if_pos c]
    · rw [if_neg c]
      show _ = (match (if B.testBit s = true then fstU B l else some p) with | none => fstU B m | some p => some p)
      rw [if_neg c]
def enP (o : Option Int32) : Int32 := match o with
  | none => -1
  | some p => p
theorem lsB_in {v : RV} {B : Nat} (hB : ∀ s, s < 3 → (B.testBit s = true ↔ inA v v.2.2.1 s)) {s : Nat} (hs : s < 3) : lsB v.2.1 v.2.2.1 (nI (100 + s)) = true ↔ ¬ B.testBit s = true := by
  rw [lsB_iff, hB s hs]
  constructor
  · rintro ⟨-, h⟩ ⟨j, j1, j2, j3, j4⟩
    cases j with
    | zero => omega
    | succ j => exact h j (by omega) ⟨j3, j4⟩
  · intro h
    exact ⟨sg_ge hs, fun i hi z => h ⟨i + 1, by omega, by omega, z.1, z.2⟩⟩
theorem lp_fst {v : RV} {B nt : Nat} (hB : ∀ s, s < 3 → (B.testBit s = true ↔ inA v v.2.2.1 s)) {f : Nat → Int32} (h2 : okA nt (f 2)) (h3 : okA nt (f 3)) (hn : nt ≤ 10) : lpB v.2.1 v.2.2.1 f = enP (fstU B (tmL f)) := by
  have key : ∀ x p, okA nt x → (x < 100 ∧ lsB v.2.1 v.2.2.1 x = false ∧ argL x p = []) ∨ ∃ s, s < 3 ∧ x = nI (100 + s) ∧ argL x p = [(s, p)] := fun x p hx => by
    by_cases c : x < 100
    · refine Or.inl ⟨c, ?_, argL_th c⟩
      cases e : lsB v.2.1 v.2.2.1 x with
      | false => rfl
      | true => exact absurd ((lsB_iff _ _ _).mp e).1 (fun z => (fa_of_lt c).2.1 z)
    · obtain ⟨s, hs, e⟩ := okA_ge hx hn c
      exact Or.inr ⟨s, hs, e, by rw [e]; exact argL_sg hs p⟩
  unfold lpB tmL
  rw [fstU_app]
  rcases key (f 2) (f 5) h2 with ⟨a1, a2, a3⟩ | ⟨s, hs, a1, a2⟩
  · rw [a3, if_neg (by rw [a2]; decide)]
    rcases key (f 3) (f 6) h3 with ⟨b1, b2, b3⟩ | ⟨s, hs, b1, b2⟩
    · rw [b3, if_neg (by rw [b2]; decide)]; rfl
    · rw [b2, b1]
      by_cases c : B.testBit s = true
      · rw [if_neg (fun z => (lsB_in hB hs).mp z c)]; simp [fstU, c, enP]
      · rw [if_pos ((lsB_in hB hs).mpr c)]; simp [fstU, c, enP]
  · rw [a2, a1]
    by_cases c : B.testBit s = true
    · rw [if_neg (fun z => (lsB_in hB hs).mp z c)]
      rcases key (f 3) (f 6) h3 with ⟨b1, b2, b3⟩ | ⟨r, hr, b1, b2⟩
      · rw [b3, if_neg (by rw [b2]; decide)]; simp [fstU, c, enP]
      · rw [b2, b1]
        by_cases d : B.testBit r = true
        · rw [if_neg (fun z => (lsB_in hB hr).mp z d)]; simp [fstU, c, d, enP]
        · rw [if_pos ((lsB_in hB hr).mpr d)]; simp [fstU, c, d, enP]
    · rw [if_pos ((lsB_in hB hs).mpr c)]; simp [fstU, c, enP]
theorem fst_ne {B : Nat} : ∀ {l : List (Nat × Int32)}, (∀ s p, (s, p) ∈ l → ¬ p = -1) → (enP (fstU B l) = -1 ↔ fstU B l = none)
  | [], _ => ⟨fun _ => rfl, fun _ => rfl⟩
  | (s, p) :: l, h => by
    unfold fstU
    by_cases c : B.testBit s = true
    · rw [if_pos c]; exact fst_ne (fun s p hp => h s p (List.mem_cons_of_mem _ hp))
    · rw [if_neg c]
      exact ⟨fun z => absurd z (h s p List.mem_cons_self), fun z => by cases z⟩
theorem tmL_pl {nt : Nat} {f : Nat → Int32} (h2 : okA nt (f 2)) (h3 : okA nt (f 3)) (hn : nt ≤ 10) (hp : plP f) : ∀ s p, (s, p) ∈ tmL f → ¬ p = -1 := by
  have key : ∀ x p, (x = -1 ∨ ∃ q, q ≤ 400 ∧ p = nI q) → ∀ s r, (s, r) ∈ argL x p → ¬ r = -1 := fun x p hx s r hm => by
    unfold argL at hm
    by_cases c : x < 100
    · rw [if_pos c] at hm; cases hm
    · rw [if_neg c] at hm
      rw [List.mem_singleton] at hm
      injection hm with _ e
      rcases hx with z | ⟨q, q1, q2⟩
      · rw [z] at c; exact absurd (by decide) c
      · rw [e, q2]; exact nI_m1 (by omega)
  intro s p hm
  unfold tmL at hm
  rcases List.mem_append.mp hm with z | z
  · exact key _ _ hp.1 s p z
  · exact key _ _ hp.2 s p z
theorem ls_fst {q : PQ} {v : RV} {B : Nat} (hB : ∀ s, s < 3 → (B.testBit s = true ↔ inA v v.2.2.1 s)) (hq : q.1 ≤ 10) (hD : ∀ j, j ≤ v.2.2.1 → tmD q (tmI v j)) : ∀ i, i ≤ v.2.2.1 → lsF v i = enP (fstU B (stL v i)) ∧ ∀ s p, (s, p) ∈ stL v i → ¬ p = -1
  | 0, _ => by
    have h0 : tmD q v.1 := hD 0 (Nat.zero_le _)
    exact ⟨lp_fst hB h0.2.1 h0.2.2.1 hq, tmL_pl h0.2.1 h0.2.2.1 hq h0.2.2.2.1⟩
  | i + 1, hi => by
    obtain ⟨e1, e2⟩ := ls_fst hB hq hD i (by omega)
    have h0 : tmD q (v.2.1 i) := hD (i + 1) hi
    show (if lsF v i = -1 then lpB v.2.1 v.2.2.1 (v.2.1 i) else lsF v i) = enP (fstU B (stL v i ++ (if v.2.1 i 0 = 0 then [] else tmL (v.2.1 i)))) ∧ ∀ s p, (s, p) ∈ stL v i ++ (if v.2.1 i 0 = 0 then [] else tmL (v.2.1 i)) → ¬ p = -1
    refine ⟨?_, fun s p hm => ?_⟩
    · rw [fstU_app]
      by_cases c : lsF v i = -1
      · rw [if_pos c]
        have c2 := (fst_ne (B := B) e2).mp (e1 ▸ c)
        rw [c2]
        by_cases d : v.2.1 i 0 = 0
        · rw [if_pos d]
          rw [lp_fst hB h0.2.1 h0.2.2.1 hq]
          have hall : ∀ s p, (s, p) ∈ tmL (v.2.1 i) → B.testBit s = true := fun s p hm => by
            have key : ∀ x p0, (s, p) ∈ argL x p0 → okA q.1 x → (x = v.2.1 i 2 ∨ x = v.2.1 i 3) → B.testBit s = true := fun x p0 hm hx hor => by
              by_cases c9 : x < 100
              · rw [argL_th c9] at hm; cases hm
              · obtain ⟨r, hr, er⟩ := okA_ge hx hq c9
                rw [er, argL_sg hr, List.mem_singleton] at hm
                injection hm with es _
                rw [es, hB r hr]
                exact ⟨i + 1, by omega, by omega, d, hor.imp (fun z => z.symm.trans er) (fun z => z.symm.trans er)⟩
            unfold tmL at hm
            rcases List.mem_append.mp hm with z | z
            · exact key _ _ z h0.2.1 (Or.inl rfl)
            · exact key _ _ z h0.2.2.1 (Or.inr rfl)
          have hnone : ∀ {l : List (Nat × Int32)}, (∀ s p, (s, p) ∈ l → B.testBit s = true) → fstU B l = none := fun {l} hl => by
            induction l with
            | nil => rfl
            | cons a l ih =>
              obtain ⟨s, p⟩ := a
              unfold fstU
              rw [if_pos (hl s p List.mem_cons_self)]
              exact ih (fun s p hp => hl s p (List.mem_cons_of_mem _ hp))
          rw [hnone hall]; rfl
        · rw [if_neg d]; exact lp_fst hB h0.2.1 h0.2.2.1 hq
      · rw [if_neg c, e1]
        cases z : fstU B (stL v i) with
        | none => exact absurd (by rw [e1, z]; rfl) c
        | some p => rfl
    · rcases List.mem_append.mp hm with z | z
      · exact e2 s p z
      · by_cases d : v.2.1 i 0 = 0
        · rw [if_pos d] at z; cases z
        · rw [if_neg d] at z; exact tmL_pl h0.2.1 h0.2.2.1 hq h0.2.2.2.1 s p z
theorem fst_at {B : Nat} : ∀ {l : List (Nat × Int32)} {j s : Nat} {p : Int32}, (∀ i r o, i < j → l[i]? = some (r, o) → B.testBit r = true) → l[j]? = some (s, p) → ¬ B.testBit s = true → fstU B l = some p
  | [], j, s, p, h, e, c => by simp at e
  | (r, o) :: l, 0, s, p, h, e, c => by
    simp at e
    obtain ⟨rfl, rfl⟩ := e
    unfold fstU; rw [if_neg c]
  | (r, o) :: l, j + 1, s, p, h, e, c => by
    unfold fstU
    rw [if_pos (h 0 r o (by omega) rfl)]
    exact fst_at (j := j) (fun i r o hi hr => h (i + 1) r o (by omega) (by simpa using hr)) (by simpa using e) c
theorem fst_no {B : Nat} : ∀ {l : List (Nat × Int32)}, (∀ (i r : Nat) (o : Int32), l[i]? = some (r, o) → B.testBit r = true) → fstU B l = none
  | [], _ => rfl
  | (r, o) :: l, h => by
    unfold fstU
    rw [if_pos (h 0 r o rfl)]
    exact fst_no (fun i r o hr => h (i + 1) r o (by simpa using hr))
theorem b3_get : ∀ B, B < 8 → ∀ s, s < 3 → ((nI B >>> (nI s &&& 31)) &&& 1) = bi (B.testBit s) := by decide +kernel
def numM (f : Nat → Int32) : Int32 := 100 * f 1 + 10 * (if 0 < f 2 then f 2 else 0) + (if 0 < f 3 then f 3 else 0)
theorem mx0 {nt : Nat} {a : Int32} (h : okA nt a) (hn : nt ≤ 10) (h1 : a < 100) : (if a < 0 then (0 : Int32) else a) = (if 0 < a then a else 0) := by
  rcases okA_lt h hn h1 with e | ⟨t, ht, e⟩
  · subst e; rfl
  · subst e
    rw [if_neg (by rw [show (0 : Int32) = nI 0 from rfl, nI_ltI (by omega) (by omega)]; omega)]
    by_cases c : t = 0
    · subst c; rfl
    · rw [if_pos (by rw [show (0 : Int32) = nI 0 from rfl, nI_ltI (by omega) (by omega)]; omega)]
theorem num_ft {q : PQ} {f : Nat → Int32} (h : tmD q f) (hq : q.1 ≤ 10) (h2 : f 2 < 100) (h3 : f 3 < 100) : numM f = ftN f := by
  unfold numM ftN
  rw [mx0 h.2.1 hq h2, mx0 h.2.2.1 hq h3]
  generalize (if 0 < f 2 then f 2 else 0) = a
  generalize (if 0 < f 3 then f 3 else 0) = b
  generalize f 1 = k
  have e : (100 : Int32) = 10 * 10 := by decide
  rw [e, Int32.add_mul, Int32.mul_assoc, Int32.mul_comm k 10, Int32.mul_assoc, Int32.mul_comm k 10, Int32.mul_comm a 10]
set_option maxRecDepth 100000 in
set_option maxHeartbeats 4000000 in
theorem k_X12_init {G : xG} {h : xHp} {a : Nat} (hc : h.1 a = some (.inr (12, [.int 0, .int 0, .int 0, .null, .null, .null, .null, .null]))) (hn2 : h.2 = a + 1) : MX G mX12_init 2 5 23 [.ref a] h (fun o h' => o = .inl none ∧ h'.2 = a + 6 ∧ (∀ q, q < a → h'.1 q = h.1 q) ∧ rmC h' a 0 0 0 (fun _ => 0) (fun _ => 0) (fun _ => 0) (fun _ => 0) (fun _ => 0)) := by
  refine MX.of [(0, .ref a)] (by decide) rfl (Nat.le_of_ble_eq_true rfl) rfl ?_
  refine x_aload_n dX12_init_0 rfl ?_
  refine x_objInit ml_X12_3 oi_i oi_c dX12_init_1 (Nat.le_of_ble_eq_true rfl) (Nat.le_of_ble_eq_true rfl) ?_
  refine x_aload_n dX12_init_4 rfl ?_
  refine x_iconst (v := 5) dX12_init_5 (by decide) ?_
  refine x_newi (N := 5) ac_int (by decide) (by decide) (by decide) (by decide) (by decide) dX12_init_6 ?_
  refine x_nwA (a := a + 1) hn2 ?_
  refine x_putF [.int 0, .int 0, .int 0, .ref (a + 1), .null, .null, .null, .null] lf_X12_9 rfl dX12_init_8 ((xnwA_ne (by omega)).trans hc) (Nat.le_of_ble_eq_true rfl) rfl rfl rfl ?_
  refine x_aload_n dX12_init_11 rfl ?_
  refine x_iconst (v := 5) dX12_init_12 (by decide) ?_
  refine x_newi (N := 5) ac_int (by decide) (by decide) (by decide) (by decide) (by decide) dX12_init_13 ?_
  refine x_nwA (a := a + 2) rfl ?_
  refine x_putF [.int 0, .int 0, .int 0, .ref (a + 1), .ref (a + 2), .null, .null, .null] lf_X12_15 rfl dX12_init_15 ((xnwA_ne (by omega)).trans (xup_self _ _ _)) (Nat.le_of_ble_eq_true rfl) rfl rfl rfl ?_
  refine x_aload_n dX12_init_18 rfl ?_
  refine x_iconst (v := 5) dX12_init_19 (by decide) ?_
  refine x_newi (N := 5) ac_int (by decide) (by decide) (by decide) (by decide) (by decide) dX12_init_20 ?_
  refine x_nwA (a := a + 3) rfl ?_
  refine x_putF [.int 0, .int 0, .int 0, .ref (a + 1), .ref (a + 2), .ref (a + 3), .null, .null] lf_X12_18 rfl dX12_init_22 ((xnwA_ne (by omega)).trans (xup_self _ _ _)) (Nat.le_of_ble_eq_true rfl) rfl rfl rfl ?_
  refine x_aload_n dX12_init_25 rfl ?_
  refine x_iconst (v := 5) dX12_init_26 (by decide) ?_
  refine x_newi (N := 5) ac_int (by decide) (by decide) (by decide) (by decide) (by decide) dX12_init_27 ?_
  refine x_nwA (a := a + 4) rfl ?_
  refine x_putF [.int 0, .int 0, .int 0, .ref (a + 1), .ref (a + 2), .ref (a + 3), .ref (a + 4), .null] lf_X12_21 rfl dX12_init_29 ((xnwA_ne (by omega)).trans (xup_self _ _ _)) (Nat.le_of_ble_eq_true rfl) rfl rfl rfl ?_
  refine x_aload_n dX12_init_32 rfl ?_
  refine x_iconst (v := 3) dX12_init_33 (by decide) ?_
  refine x_newi (N := 3) ac_int (by decide) (by decide) (by decide) (by decide) (by decide) dX12_init_34 ?_
  refine x_nwA (a := a + 5) rfl ?_
  refine x_putF [.int 0, .int 0, .int 0, .ref (a + 1), .ref (a + 2), .ref (a + 3), .ref (a + 4), .ref (a + 5)] lf_X12_24 rfl dX12_init_36 ((xnwA_ne (by omega)).trans (xup_self _ _ _)) (Nat.le_of_ble_eq_true rfl) rfl rfl rfl ?_
  exact x_vret dX12_init_39 rfl (by decide) (by decide) ⟨rfl, rfl, fun q hq => ((xup_ne (by omega)).trans ((xnwA_ne (by omega)).trans ((xup_ne (by omega)).trans ((xnwA_ne (by omega)).trans ((xup_ne (by omega)).trans ((xnwA_ne (by omega)).trans ((xup_ne (by omega)).trans ((xnwA_ne (by omega)).trans ((xup_ne (by omega)).trans ((xnwA_ne (by omega)).trans rfl)))))))))), ((xup_self _ _ _)), (((xup_ne (by omega)).trans ((xnwA_ne (by omega)).trans ((xup_ne (by omega)).trans ((xnwA_ne (by omega)).trans ((xup_ne (by omega)).trans ((xnwA_ne (by omega)).trans ((xup_ne (by omega)).trans ((xnwA_ne (by omega)).trans ((xup_ne (by omega)).trans (xnwA_self _ _ _))))))))))), (((xup_ne (by omega)).trans ((xnwA_ne (by omega)).trans ((xup_ne (by omega)).trans ((xnwA_ne (by omega)).trans ((xup_ne (by omega)).trans ((xnwA_ne (by omega)).trans ((xup_ne (by omega)).trans (xnwA_self _ _ _))))))))), (((xup_ne (by omega)).trans ((xnwA_ne (by omega)).trans ((xup_ne (by omega)).trans ((xnwA_ne (by omega)).trans ((xup_ne (by omega)).trans (xnwA_self _ _ _))))))), (((xup_ne (by omega)).trans ((xnwA_ne (by omega)).trans ((xup_ne (by omega)).trans (xnwA_self _ _ _))))), (((xup_ne (by omega)).trans (xnwA_self _ _ _)))⟩
set_option maxRecDepth 100000 in
set_option maxHeartbeats 4000000 in
theorem k_X14_numberOf {G : xG} {h : xHp} {a : Nat} {t9 s9 p9 : Int32} {so kd on tz lt : Nat → Int32} (rc9 : rmC h a t9 s9 p9 so kd on tz lt) : MX G mX14_numberOf 2 0 0 [.ref a, .int 0] h (xAns (.int (100 * kd 0 + 10 * (if 0 < on 0 then on 0 else 0) + (if 0 < tz 0 then tz 0 else 0))) h) := by
  refine MX.of [(0, .ref a), (1, .int 0)] (by decide) rfl (Nat.le_of_ble_eq_true rfl) rfl ?_
  refine x_bipush (v := 100) dX14_numberOf_0 (by decide) ?_
  refine x_aload_n dX14_numberOf_2 rfl ?_
  refine x_get lf_X14_171 dX14_numberOf_3 rc9.1 rfl ?_
  refine x_iload_n dX14_numberOf_6 rfl ?_
  refine x_ialdN (j := 0) rc9.2.2.1 rfl (by decide) (by decide) dX14_numberOf_7 ?_
  refine x_imul dX14_numberOf_8 ?_
  refine x_bipush (v := 10) dX14_numberOf_9 (by decide) ?_
  refine x_iconst (v := 0) dX14_numberOf_11 (by decide) ?_
  refine x_aload_n dX14_numberOf_12 rfl ?_
  refine x_get lf_X14_173 dX14_numberOf_13 rc9.1 rfl ?_
  refine x_iload_n dX14_numberOf_16 rfl ?_
  refine x_ialdN (j := 0) rc9.2.2.2.1 rfl (by decide) (by decide) dX14_numberOf_17 ?_
  refine x_max ml_X14_205 mx_s in_Math mx_c dX14_numberOf_18 (Nat.le_of_ble_eq_true rfl) (Nat.le_of_ble_eq_true rfl) ⟨Nat.le_of_ble_eq_true rfl, Nat.le_of_ble_eq_true rfl⟩ ?_
  refine x_imul dX14_numberOf_21 ?_
  refine x_iadd dX14_numberOf_22 ?_
  refine x_iconst (v := 0) dX14_numberOf_23 (by decide) ?_
  refine x_aload_n dX14_numberOf_24 rfl ?_
  refine x_get lf_X14_176 dX14_numberOf_25 rc9.1 rfl ?_
  refine x_iload_n dX14_numberOf_28 rfl ?_
  refine x_ialdN (j := 0) rc9.2.2.2.2.1 rfl (by decide) (by decide) dX14_numberOf_29 ?_
  refine x_max ml_X14_205 mx_s in_Math mx_c dX14_numberOf_30 (Nat.le_of_ble_eq_true rfl) (Nat.le_of_ble_eq_true rfl) ⟨Nat.le_of_ble_eq_true rfl, Nat.le_of_ble_eq_true rfl⟩ ?_
  refine x_iadd dX14_numberOf_33 ?_
  exact x_iret dX14_numberOf_34 rfl rfl (Nat.le_refl _) (Nat.le_refl _) ⟨rfl, rfl⟩
