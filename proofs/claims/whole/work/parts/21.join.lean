/-! RuleCourt$Join: what it does, as functions -/
def rowS (f : Nat → Int32) (n : Nat) : Bool := decide (¬ ((f (n / 10) >>> (nI (n % 10) &&& 31)) &&& 1) = 0)
def wfR (f : Nat → Int32) : Prop := isRows f (rowS f)
theorem rowS_of {f : Nat → Int32} {S : Nat → Bool} (h : isRows f S) {n : Nat} (hn : n < 1000) : rowS f n = S n := by
  unfold rowS
  rw [isRows_get h hn]
  cases S n <;> rfl
theorem wfR_of {f : Nat → Int32} {S : Nat → Bool} (h : isRows f S) : wfR f := isRows_ext h (fun n hn => (rowS_of h hn).symm)
theorem wfR_row {f : Nat → Int32} (h : wfR f) {n : Nat} (hn : n < 1000) : wfR (fRow f n) := wfR_of (isRows_flip h hn)
theorem rowS_row {f : Nat → Int32} (h : wfR f) {n k : Nat} (hn : n < 1000) (hk : k < 1000) : rowS (fRow f n) k = flipS (rowS f) n k := rowS_of (isRows_flip h hn) hk
def imax (x y : Int32) : Int32 := if x < y then y else x
def enT (o : Option Nat) : Int32 := match o with
  | none => -1
  | some t => nI t
/-- an ARG: none, a THING, a SIGN -/
def okA (nt : Nat) (a : Int32) : Prop := a = -1 ∨ (∃ t, t < nt ∧ a = nI t) ∨ ∃ s, s < 3 ∧ a = nI (100 + s)
def okTh (nt : Nat) (θ : Nat → Option Nat) : Prop := ∀ s t, s < 3 → θ s = some t → t < nt
/-- the SIGN that has no THING yet -/
def frS (a : Int32) (θ : Nat → Option Nat) : Option Nat := if a < 100 then none else if θ (a.toNatClampNeg - 100) = none then some (a.toNatClampNeg - 100) else none
def thO (a : Int32) (θ : Nat → Option Nat) : Nat := if a < 100 then (if a < 0 then 0 else a.toNatClampNeg) else (θ (a.toNatClampNeg - 100)).getD 0
def rng (a : Int32) (θ : Nat → Option Nat) (nt : Nat) : List Nat := match frS a θ with
  | some _ => List.range nt
  | none => [thO a θ]
def bndS (a : Int32) (θ : Nat → Option Nat) (x : Nat) : Nat → Option Nat := match frS a θ with
  | some s => va_up θ s (some x)
  | none => θ
/-- what Join holds: rows, steps, changes, clock; reached, ended, least -/
abbrev JS : Type := (Nat → Int32) × (Nat → Int32) × (Nat → Int32) × Int32 × Int32 × Bool × (Nat → Int32)
def tkP (cs : Bool) (n : Nat) (s : Int32) (σ : JS) : JS :=
  if rowS σ.1 n = true ∧ (cs = true → σ.2.1 n ≤ s) then σ
  else (if rowS σ.1 n = true then σ.1 else fRow σ.1 n, if cs then upd σ.2.1 n s else σ.2.1, upd σ.2.2.1 (n / 100) (σ.2.2.2.1 + 1), σ.2.2.2.1 + 1, σ.2.2.2.2)
def nmP (t : Nat → Int32) (θ : Nat → Option Nat) : Nat := ((t 1).toNatClampNeg * 10 + thO (t 2) θ) * 10 + thO (t 3) θ
def secP (t : Nat → Int32) (x : Nat) (f : Nat → Int32) : Int32 := if t 0 = 2 then (1 <<< (nI x &&& 31)) ^^^ (-1) else if t 0 = 0 then f ((t 1).toNatClampNeg * 10 + x) else f ((t 1).toNatClampNeg * 10 + x) ^^^ (-1)
def bfP (θ : Nat → Option Nat) : Nat → Int32 := fun s => enT (θ s)
def arrP (v : RV) (cs : Bool) (aim : Nat) (want high : Int32) (θ : Nat → Option Nat) (σ : JS) : JS :=
  if aim = 0 then tkP cs (nmP v.1 θ) (high + 1) σ
  else if aim = 1 then (σ.1, σ.2.1, σ.2.2.1, σ.2.2.2.1, σ.2.2.2.2.1, true, σ.2.2.2.2.2.2)
  else if high = want then (σ.1, σ.2.1, σ.2.2.1, σ.2.2.2.1, σ.2.2.2.2.1, true, va_cpy (bfP θ) σ.2.2.2.2.2.2 0 0 3)
  else σ
def rchP (i : Nat) (σ : JS) : JS := (σ.1, σ.2.1, σ.2.2.1, σ.2.2.2.1, imax σ.2.2.2.2.1 (nI i), σ.2.2.2.2.2)
/-- TERM t with its first THING x: the seconds y of a list, each with what goes on -/
def w2P (t : Nat → Int32) (x : Nat) (fit high : Int32) (θ : Nat → Option Nat) (go : Int32 → (Nat → Option Nat) → JS → JS) : List Nat → JS → JS
  | [], σ => σ
  | y :: ys, σ => if σ.2.2.2.2.2.1 = true then σ else
      if ((if t 0 = 0 then σ.1 ((t 1).toNatClampNeg * 10 + x) else fit) >>> (nI y &&& 31)) &&& 1 = 0 then w2P t x fit high θ go ys σ
      else w2P t x fit high θ go ys (go (imax high (if t 0 = 0 then σ.2.1 (((t 1).toNatClampNeg * 10 + x) * 10 + y) else 0)) (bndS (t 3) θ y) σ)
def w1P (t : Nat → Int32) (nt : Nat) (high : Int32) (θ : Nat → Option Nat) (go : Int32 → (Nat → Option Nat) → JS → JS) : List Nat → JS → JS
  | [], σ => σ
  | x :: xs, σ => if σ.2.2.2.2.2.1 = true then σ else
      if secP t x σ.1 = 0 then w1P t nt high θ go xs σ
      else w1P t nt high θ go xs (w2P t x (secP t x σ.1) high (bndS (t 2) θ x) go (rng (t 3) (bndS (t 2) θ x) nt) σ)
def wkP (v : RV) (nt : Nat) (cs : Bool) (aim : Nat) (want : Int32) : Nat → Nat → Int32 → (Nat → Option Nat) → JS → JS
  | 0, i, high, θ, σ => arrP v cs aim want high θ (rchP i σ)
  | n + 1, i, high, θ, σ => w1P (v.2.1 i) nt high θ (fun hi τ ρ => wkP v nt cs aim want n (i + 1) hi τ ρ) (rng (v.2.1 i 2) θ nt) (rchP i σ)
theorem okA_lt {nt : Nat} {a : Int32} (h : okA nt a) (hn : nt ≤ 10) (h1 : a < 100) : a = -1 ∨ ∃ t, t < nt ∧ a = nI t := by
  rcases h with h | h | ⟨s, hs, rfl⟩
  · exact Or.inl h
  · exact Or.inr h
  · exact absurd ((nI_ltI (b := 100) (by omega) (by omega)).mp h1) (by omega)
theorem okA_ge {nt : Nat} {a : Int32} (h : okA nt a) (hn : nt ≤ 10) (h1 : ¬ a < 100) : ∃ s, s < 3 ∧ a = nI (100 + s) := by
  rcases h with rfl | ⟨t, ht, rfl⟩ | h
  · exact absurd (by decide) h1
  · exact absurd (nI_lt (b := 100) (by omega) (by decide)) h1
  · exact h
theorem sg_not {s : Nat} (hs : s < 3) : ¬ nI (100 + s) < 100 := nI_nlt (b := 100) (by omega) (by omega)
theorem sg_cl {s : Nat} (hs : s < 3) : (nI (100 + s)).toNatClampNeg - 100 = s := by rw [nI_clamp (by omega)]; omega
theorem frS_sg {s : Nat} (hs : s < 3) (θ : Nat → Option Nat) : frS (nI (100 + s)) θ = if θ s = none then some s else none := by
  unfold frS
  rw [if_neg (sg_not hs), sg_cl hs]
theorem frS_th {a : Int32} (h : a < 100) (θ : Nat → Option Nat) : frS a θ = none := by
  unfold frS
  rw [if_pos h]
theorem thO_sg {s : Nat} (hs : s < 3) (θ : Nat → Option Nat) : thO (nI (100 + s)) θ = (θ s).getD 0 := by
  unfold thO
  rw [if_neg (sg_not hs), sg_cl hs]
theorem thO_th {t : Nat} (ht : t < 10) (θ : Nat → Option Nat) : thO (nI t) θ = t := by
  unfold thO
  rw [if_pos (show nI t < 100 from nI_lt (b := 100) (by omega) (by decide)), if_neg (nI_pos (by omega)), nI_clamp (by omega)]
theorem thO_no (θ : Nat → Option Nat) : thO (-1) θ = 0 := rfl
theorem thO_lt {nt : Nat} {a : Int32} {θ : Nat → Option Nat} (h : okA nt a) (hθ : okTh nt θ) (hn : nt ≤ 10) : thO a θ < 10 := by
  rcases h with rfl | ⟨t, ht, rfl⟩ | ⟨s, hs, rfl⟩
  · rw [thO_no]; omega
  · rw [thO_th (by omega)]; omega
  · rw [thO_sg hs]
    cases e : θ s with
    | none => show 0 < 10; omega
    | some t => have := hθ s t hs e; show t < 10; omega
theorem bfP_up (θ : Nat → Option Nat) (s x : Nat) : upd (bfP θ) s (nI x) = bfP (va_up θ s (some x)) := by
  funext k
  simp only [upd, bfP, va_up]
  split <;> rfl
theorem bfP_no {θ : Nat → Option Nat} {s x : Nat} (h : θ s = none) : upd (bfP (va_up θ s (some x))) s (-1) = bfP θ := by
  funext k
  simp only [upd, bfP, va_up]
  split
  next e => rw [e, h]; rfl
  next => rfl
theorem thO_max {nt : Nat} {x : Int32} (hx : okA nt x) (hn : nt ≤ 10) (h : ¬ 100 ≤ x) (θ : Nat → Option Nat) : (if x < 0 then 0 else x) = nI (thO x θ) := by
  rcases okA_lt hx hn (Int32.not_le.mp h) with rfl | ⟨t, ht, rfl⟩
  · rfl
  · rw [if_neg (nI_pos (by omega)), thO_th (by omega)]
theorem thO_bf {s : Nat} {θ : Nat → Option Nat} (hs : s < 3) (h : θ s ≠ none) : bfP θ s = nI (thO (nI (100 + s)) θ) := by
  rw [thO_sg hs]
  unfold bfP
  cases e : θ s with
  | none => exact absurd e h
  | some t => rfl
/-! RuleCourt$Join: its small methods -/
set_option maxRecDepth 100000 in
set_option maxHeartbeats 4000000 in
theorem k_X2_thingOf {G : xG} {h : xHp} {q nt : Nat} {x : Int32} {θ : Nat → Option Nat} (hc : h.1 q = some (.inl (0, 3, .inl (bfP θ)))) (hx : okA nt x) (hn : nt ≤ 10) (hb : ∀ s, s < 3 → x = nI (100 + s) → θ s ≠ none) : MX G mX2_thingOf 1 0 0 [.int x, .ref q] h (xAns (.int (nI (thO x θ))) h) := by
  refine MX.of [(0, .int x), (1, .ref q)] (by decide) rfl (Nat.le_of_ble_eq_true rfl) rfl ?_
  refine x_iload_n dX2_thingOf_0 rfl ?_
  refine x_bipush (v := 100) dX2_thingOf_1 (by decide) ?_
  refine x_icmp_ge 14 dX2_thingOf_3 (by decide) (fun c_3 => ?_) (fun c_3 => ?_)
  · obtain ⟨s, hs, rfl⟩ := okA_ge hx hn (Int32.not_lt.mpr c_3)
    refine x_aload_n dX2_thingOf_14 rfl ?_
    refine x_iload_n dX2_thingOf_15 rfl ?_
    refine x_bipush (v := 100) dX2_thingOf_16 (by decide) ?_
    refine x_isub dX2_thingOf_18 ?_
    refine x_top (show nI (100 + s) - 100 = nI s from (pk_sub (a := 100 + s) (b := 100) (by omega)).trans (by congr 1; omega)) ?_
    refine x_ialdN (j := s) hc rfl (by omega) (by decide) dX2_thingOf_19 ?_
    exact x_iret dX2_thingOf_20 rfl rfl (Nat.le_refl _) (Nat.le_refl _) ⟨by rw [thO_bf hs (hb s hs rfl)], rfl⟩
  · refine x_iload_n dX2_thingOf_6 rfl ?_
    refine x_iconst (v := 0) dX2_thingOf_7 (by decide) ?_
    refine x_max ml_X2_92 mx_s in_Math mx_c dX2_thingOf_8 (Nat.le_of_ble_eq_true rfl) (Nat.le_of_ble_eq_true rfl) ⟨Nat.le_of_ble_eq_true rfl, Nat.le_of_ble_eq_true rfl⟩ ?_
    refine x_goto 20 dX2_thingOf_11 (by decide) ?_
    exact x_iret dX2_thingOf_20 rfl rfl (Nat.le_refl _) (Nat.le_refl _) ⟨by rw [thO_max hx hn c_3 θ], rfl⟩
set_option maxRecDepth 100000 in
set_option maxHeartbeats 4000000 in
theorem k_X2_numberOf {G : xG} {h : xHp} {q b nt : Nat} {f : Nat → Int32} {θ : Nat → Option Nat} (hc : h.1 q = some (.inl (0, 3, .inl (bfP θ)))) (ht : h.1 b = some (tC f)) (h2 : okA nt (f 2)) (h3 : okA nt (f 3)) (hk : f 1 = nI (f 1).toNatClampNeg ∧ (f 1).toNatClampNeg < 10) (hn : nt ≤ 10) (hθ : okTh nt θ) (hb2 : ∀ s, s < 3 → f 2 = nI (100 + s) → θ s ≠ none) (hb3 : ∀ s, s < 3 → f 3 = nI (100 + s) → θ s ≠ none) : MX G mX2_numberOf 2 0 0 [.ref b, .ref q] h (xAns (.int (nI (nmP f θ))) h) := by
  refine MX.of [(0, .ref b), (1, .ref q)] (by decide) rfl (Nat.le_of_ble_eq_true rfl) rfl ?_
  refine x_aload_n dX2_numberOf_0 rfl ?_
  refine x_get lf_X2_44 dX2_numberOf_1 ht rfl ?_
  refine x_top hk.1 ?_
  refine x_bipush (v := 10) dX2_numberOf_4 (by decide) ?_
  refine x_imul dX2_numberOf_6 ?_
  refine x_top (y := nI (((f 1).toNatClampNeg) * 10)) (pk_mul ((f 1).toNatClampNeg) 10) ?_
  refine x_aload_n dX2_numberOf_7 rfl ?_
  refine x_get lf_X2_82 dX2_numberOf_8 ht rfl ?_
  refine x_aload_n dX2_numberOf_11 rfl ?_
  refine x_callS (As := [.int (f 2), .ref q]) (st := [.int (nI (((f 1).toNatClampNeg) * 10))]) ls_X2_113 (k_X2_thingOf hc h2 hn hb2) dX2_numberOf_12 rfl rfl (Nat.le_of_ble_eq_true rfl) ⟨by decide, by decide⟩ ⟨by decide, by decide⟩ (fun v h1 q => ?_) (fun _ _ _ _ _ q => by cases q.1)
  obtain ⟨ev, rfl⟩ := q
  cases ev
  refine x_iadd dX2_numberOf_15 ?_
  refine x_top (y := nI ((((f 1).toNatClampNeg) * 10) + (thO (f 2) θ))) (nI_add (((f 1).toNatClampNeg) * 10) (thO (f 2) θ)) ?_
  refine x_bipush (v := 10) dX2_numberOf_16 (by decide) ?_
  refine x_imul dX2_numberOf_18 ?_
  refine x_top (y := nI (((((f 1).toNatClampNeg) * 10) + (thO (f 2) θ)) * 10)) (pk_mul ((((f 1).toNatClampNeg) * 10) + (thO (f 2) θ)) 10) ?_
  refine x_aload_n dX2_numberOf_19 rfl ?_
  refine x_get lf_X2_89 dX2_numberOf_20 ht rfl ?_
  refine x_aload_n dX2_numberOf_23 rfl ?_
  refine x_callS (As := [.int (f 3), .ref q]) (st := [.int (nI (((((f 1).toNatClampNeg) * 10) + (thO (f 2) θ)) * 10))]) ls_X2_113 (k_X2_thingOf hc h3 hn hb3) dX2_numberOf_24 rfl rfl (Nat.le_of_ble_eq_true rfl) ⟨by decide, by decide⟩ ⟨by decide, by decide⟩ (fun v h1 q => ?_) (fun _ _ _ _ _ q => by cases q.1)
  obtain ⟨ev, rfl⟩ := q
  cases ev
  refine x_iadd dX2_numberOf_27 ?_
  refine x_top (y := nI ((((((f 1).toNatClampNeg) * 10) + (thO (f 2) θ)) * 10) + (thO (f 3) θ))) (nI_add (((((f 1).toNatClampNeg) * 10) + (thO (f 2) θ)) * 10) (thO (f 3) θ)) ?_
  exact x_iret dX2_numberOf_28 rfl rfl (Nat.le_refl _) (Nat.le_refl _) ⟨rfl, rfl⟩
abbrev jC (bk md rl bo le : Nat) (aim rd wt : Int32) (en : Bool) : xCel := .inr (2, [.ref bk, .ref md, .ref rl, .int aim, .ref bo, .int rd, .int (bi en), .int wt, .ref le])
theorem bfP_none {θ : Nat → Option Nat} {nt s : Nat} (hθ : okTh nt θ) (hn : nt ≤ 10) (hs : s < 3) (h : bfP θ s = -1) : θ s = none := by
  unfold bfP at h
  cases e : θ s with
  | none => rfl
  | some t =>
    rw [e] at h
    have := hθ s t hs e
    exact absurd h (nI_m1 (by omega))
set_option maxRecDepth 100000 in
set_option maxHeartbeats 4000000 in
theorem k_X2_freeSign {G : xG} {h : xHp} {j bk md rl bo le : Nat} {aim rd wt : Int32} {en : Bool} (hj : h.1 j = some (jC bk md rl bo le aim rd wt en)) {nt : Nat} {x : Int32} {θ : Nat → Option Nat} (hc : h.1 bo = some (.inl (0, 3, .inl (bfP θ)))) (hx : okA nt x) (hn : nt ≤ 10) (hθ : okTh nt θ) : MX G mX2_freeSign 1 0 0 [.ref j, .int x] h (xAns (.int (enT (frS x θ))) h) := by
  refine MX.of [(0, .ref j), (1, .int x)] (by decide) rfl (Nat.le_of_ble_eq_true rfl) rfl ?_
  refine x_iload_n dX2_freeSign_0 rfl ?_
  refine x_bipush (v := 100) dX2_freeSign_1 (by decide) ?_
  refine x_icmp_lt 23 dX2_freeSign_3 (by decide) (fun c_3 => ?_) (fun c_3 => ?_)
  · refine x_iconst (v := 0) dX2_freeSign_23 (by decide) ?_
    refine x_istore_n [(0, .ref j), (1, .int x), (2, .int 0)] dX2_freeSign_24 (by decide) rfl rfl ?_
    refine x_iload_n dX2_freeSign_25 rfl ?_
    refine x_if_eq 36 dX2_freeSign_26 (by decide) (fun _ => ?_) (fun c => absurd c (by decide))
    refine x_iconst (v := (-1)) dX2_freeSign_36 (by decide) ?_
    exact x_iret dX2_freeSign_37 rfl rfl (Nat.le_refl _) (Nat.le_refl _) ⟨by first | (rw [frS_th c_3]; rfl) | (rw [frS_sg hs, if_pos (bfP_none hθ hn hs c_16)]; rfl) | (rw [frS_sg hs, if_neg (fun e => c_16 (by unfold bfP; rw [e]; rfl))]; rfl), rfl⟩
  · obtain ⟨s, hs, rfl⟩ := okA_ge hx hn c_3
    refine x_aload_n dX2_freeSign_6 rfl ?_
    refine x_get lf_X2_9 dX2_freeSign_7 hj rfl ?_
    refine x_iload_n dX2_freeSign_10 rfl ?_
    refine x_bipush (v := 100) dX2_freeSign_11 (by decide) ?_
    refine x_isub dX2_freeSign_13 ?_
    refine x_top (show nI (100 + s) - 100 = nI s from (pk_sub (a := 100 + s) (b := 100) (by omega)).trans (by congr 1; omega)) ?_
    refine x_ialdN (j := s) hc rfl (by omega) (by decide) dX2_freeSign_14 ?_
    refine x_iconst (v := (-1)) dX2_freeSign_15 (by decide) ?_
    refine x_icmp_ne 23 dX2_freeSign_16 (by decide) (fun c_16 => ?_) (fun c_16 => ?_)
    · refine x_iconst (v := 0) dX2_freeSign_23 (by decide) ?_
      refine x_istore_n [(0, .ref j), (1, .int (nI (100 + s))), (2, .int 0)] dX2_freeSign_24 (by decide) rfl rfl ?_
      refine x_iload_n dX2_freeSign_25 rfl ?_
      refine x_if_eq 36 dX2_freeSign_26 (by decide) (fun _ => ?_) (fun c => absurd c (by decide))
      refine x_iconst (v := (-1)) dX2_freeSign_36 (by decide) ?_
      exact x_iret dX2_freeSign_37 rfl rfl (Nat.le_refl _) (Nat.le_refl _) ⟨by first | (rw [frS_th c_3]; rfl) | (rw [frS_sg hs, if_pos (bfP_none hθ hn hs c_16)]; rfl) | (rw [frS_sg hs, if_neg (fun e => c_16 (by unfold bfP; rw [e]; rfl))]; rfl), rfl⟩
    · refine x_iconst (v := 1) dX2_freeSign_19 (by decide) ?_
      refine x_goto 24 dX2_freeSign_20 (by decide) ?_
      refine x_istore_n [(0, .ref j), (1, .int (nI (100 + s))), (2, .int 1)] dX2_freeSign_24 (by decide) rfl rfl ?_
      refine x_iload_n dX2_freeSign_25 rfl ?_
      refine x_if_eq 36 dX2_freeSign_26 (by decide) (fun c => absurd c (by decide)) (fun _ => ?_)
      refine x_iload_n dX2_freeSign_29 rfl ?_
      refine x_bipush (v := 100) dX2_freeSign_30 (by decide) ?_
      refine x_isub dX2_freeSign_32 ?_
      refine x_top (show nI (100 + s) - 100 = nI s from (pk_sub (a := 100 + s) (b := 100) (by omega)).trans (by congr 1; omega)) ?_
      refine x_goto 37 dX2_freeSign_33 (by decide) ?_
      exact x_iret dX2_freeSign_37 rfl rfl (Nat.le_refl _) (Nat.le_refl _) ⟨by first | (rw [frS_th c_3]; rfl) | (rw [frS_sg hs, if_pos (bfP_none hθ hn hs c_16)]; rfl) | (rw [frS_sg hs, if_neg (fun e => c_16 (by unfold bfP; rw [e]; rfl))]; rfl), rfl⟩
