/-! what holds of a RULE as it is read -/
def bM (v : RV) (i : Nat) : Nat := match i with
  | 0 => 0
  | j + 1 => mS v j
theorem mS_eq (v : RV) (j : Nat) : mS v j = nxA (tmI v j 3) (nxA (tmI v j 2) (bM v j)) := by cases j <;> rfl
theorem mS_cong {v w : RV} (h1 : v.1 = w.1) (h2 : v.2.1 = w.2.1) : ∀ j, mS v j = mS w j
  | 0 => by simp only [mS, h1]
  | j + 1 => by simp only [mS, h2, mS_cong h1 h2 j]
theorem tmI_st_ne {v : RV} {i j : Nat} {f : Nat → Int32} (h : j ≠ i) : tmI (stT v i f) j = tmI v j := by
  cases i with
  | zero => cases j with
    | zero => exact absurd rfl h
    | succ j => rfl
  | succ i => cases j with
    | zero => rfl
    | succ j => show (if j = i then f else v.2.1 j) = v.2.1 j; rw [if_neg (by omega)]
theorem mS_lt {v w : RV} : ∀ {j : Nat}, (∀ m, m ≤ j → tmI v m = tmI w m) → mS v j = mS w j
  | 0, h => by rw [mS_eq, mS_eq, h 0 (Nat.le_refl _)]; rfl
  | j + 1, h => by
    rw [mS_eq, mS_eq, h (j + 1) (Nat.le_refl _)]
    show nxA _ (nxA _ (mS v j)) = nxA _ (nxA _ (mS w j))
    rw [mS_lt (fun m hm => h m (by omega))]
theorem bM_st (v : RV) (i : Nat) (f : Nat → Int32) : bM (stT v i f) i = bM v i := by
  cases i with
  | zero => rfl
  | succ j => exact mS_lt (fun m hm => tmI_st_ne (by omega))
theorem bM_lt {v w : RV} {j : Nat} (h : ∀ m, m < j → tmI v m = tmI w m) : bM v j = bM w j := by
  cases j with
  | zero => rfl
  | succ j => exact mS_lt (fun m hm => h m (by omega))
/-- SIGNS in their order up to ATOM i -/
def orI (v : RV) (i : Nat) : Prop := ∀ j, j ≤ i → ordA (tmI v j 2) (bM v j) ∧ ordA (tmI v j 3) (nxA (tmI v j 2) (bM v j))
theorem orI_R {v : RV} (h : orI v v.2.2.1) : ordR v := ⟨h 0 (Nat.zero_le _), fun i hi => h (i + 1) hi⟩
/-- an ATOM or TERM that is whole -/
def plP (t : Nat → Int32) : Prop := (t 2 = -1 ∨ ∃ p, p ≤ 400 ∧ t 5 = nI p) ∧ (t 3 = -1 ∨ ∃ p, p ≤ 400 ∧ t 6 = nI p)
def tmD (q : PQ) (t : Nat → Int32) : Prop := (t 0 = 0 ∨ t 0 = 1 ∨ t 0 = 2) ∧ okA q.1 (t 2) ∧ okA q.1 (t 3) ∧ plP t ∧ (¬ t 0 = 2 → (t 1 = nI (t 1).toNatClampNeg ∧ (t 1).toNatClampNeg < q.2.2.1) ∧ plH q.2.2.2.2 t)
theorem okA_mono {m n : Nat} {a : Int32} (h : m ≤ n) (ha : okA m a) : okA n a := by
  rcases ha with e | ⟨t, ht, e⟩ | e
  · exact Or.inl e
  · exact Or.inr (Or.inl ⟨t, by omega, e⟩)
  · exact Or.inr (Or.inr e)
theorem tmD.ext {q q' : PQ} {t : Nat → Int32} (h : tmD q t) (x : extQ q q') : tmD q' t := by
  refine ⟨h.1, okA_mono x.1 h.2.1, okA_mono x.1 h.2.2.1, h.2.2.2.1, fun z => ?_⟩
  obtain ⟨⟨a, b⟩, c⟩ := h.2.2.2.2 z
  refine ⟨⟨a, Nat.lt_of_lt_of_le b x.2.2.1⟩, ?_⟩
  unfold plH at c ⊢
  rw [(x.2.2.2 _ b).2]; exact c
/-- the RULE while ATOM i is read -/
def rdP (q : PQ) (v : RV) (i : Nat) : Prop := (q.1 ≤ 10 ∧ q.2.2.1 ≤ 10) ∧ (v.2.2.1 = i ∧ i ≤ 4 ∧ v.2.2.2.2 ≤ 3) ∧ (orI v i ∧ mS v i = v.2.2.2.2) ∧ (∀ j, j < i → tmD q (tmI v j)) ∧ okA q.1 (tmI v i 2) ∧ okA q.1 (tmI v i 3) ∧ plP (tmI v i)
theorem tArg_get (f : Nat → Int32) (b : Bool) (x p : Int32) : tArg f b x p 0 = f 0 ∧ tArg f b x p 1 = f 1 ∧ tArg f b x p 4 = f 4 ∧ (b = true → tArg f b x p 2 = x ∧ tArg f b x p 3 = f 3 ∧ tArg f b x p 5 = p ∧ tArg f b x p 6 = f 6) ∧ (b = false → tArg f b x p 2 = f 2 ∧ tArg f b x p 3 = x ∧ tArg f b x p 5 = f 5 ∧ tArg f b x p 6 = p) := by
  cases b
  · exact ⟨rfl, rfl, rfl, (fun z => by cases z), fun _ => ⟨rfl, rfl, rfl, rfl⟩⟩
  · exact ⟨rfl, rfl, rfl, fun _ => ⟨rfl, rfl, rfl, rfl⟩, fun z => by cases z⟩
/-- what an ARG may be, and what the RULE's SIGNS are then -/
def newA (v : RV) (c : Int32) (x : Int32) (u : RV) : Prop := ((∀ s, s < 3 → x ≠ nI (100 + s)) ∧ u = v) ∨ (∃ s, s < v.2.2.2.2 ∧ x = nI (100 + s) ∧ u = v) ∨ (v.2.2.2.2 < 3 ∧ x = nI (100 + v.2.2.2.2) ∧ u = addS v c)
theorem pArg_res {tk : Nat → Tk} {q q' : PQ} {v v' : RV} {k i : Nat} {b : Bool} (h : pArg tk q v k i b = .inr (q', v')) (h1 : q.1 ≤ 10) (h3 : v.2.2.2.2 ≤ 3) : ∃ x u, v' = stT u i (tArg (tmI v i) b x (nI (tk k).2.1)) ∧ newA v (cS (tk k)) x u ∧ okA q'.1 x ∧ x ≠ -1 ∧ extQ q q' ∧ q'.2.2 = q.2.2 ∧ q'.1 ≤ 10 := by
  unfold pArg at h
  by_cases a : (tk k).1 = 2
  · rw [if_pos a] at h
    by_cases b1 : wLook q.2.1 (tk k).2.2 q.1 < q.1
    · rw [if_pos b1] at h
      injection h with h; injection h with e1 e2
      subst e1
      refine ⟨_, v, e2.symm, Or.inl ⟨fun s hs z => ?_, rfl⟩, Or.inr (Or.inl ⟨_, b1, rfl⟩), nI_m1 (by omega), extQ_rf q, rfl, h1⟩
      rw [nI_eq (by omega) (by omega)] at z; omega
    · rw [if_neg b1] at h
      by_cases b2 : q.1 < 10
      · rw [if_pos b2] at h
        injection h with h; injection h with e1 e2
        subst e1
        refine ⟨_, v, e2.symm, Or.inl ⟨fun s hs z => ?_, rfl⟩, Or.inr (Or.inl ⟨q.1, Nat.lt_succ_self _, rfl⟩), nI_m1 (by omega), extQ_th q _, rfl, b2⟩
        rw [nI_eq (by omega) (by omega)] at z; omega
      · rw [if_neg b2] at h; cases h
  · rw [if_neg a] at h
    by_cases a3 : (tk k).1 = 3
    · rw [if_pos a3] at h
      by_cases b1 : sLook v.2.2.2.1 (cS (tk k)) v.2.2.2.2 < v.2.2.2.2
      · rw [if_pos b1] at h
        injection h with h; injection h with e1 e2
        subst e1
        exact ⟨_, v, e2.symm, Or.inr (Or.inl ⟨_, b1, rfl, rfl⟩), Or.inr (Or.inr ⟨_, by omega, rfl⟩), nI_m1 (by omega), extQ_rf q, rfl, h1⟩
      · rw [if_neg b1] at h
        by_cases b2 : v.2.2.2.2 < 3
        · rw [if_pos b2] at h
          injection h with h; injection h with e1 e2
          subst e1
          exact ⟨_, _, e2.symm, Or.inr (Or.inr ⟨b2, rfl, rfl⟩), Or.inr (Or.inr ⟨_, b2, rfl⟩), nI_m1 (by omega), extQ_rf q, rfl, h1⟩
        · rw [if_neg b2] at h; cases h
    · rw [if_neg a3] at h; cases h
theorem newA_nx {v u : RV} {c x : Int32} (h : newA v c x u) (h3 : v.2.2.2.2 ≤ 3) : nxA x v.2.2.2.2 = u.2.2.2.2 ∧ ordA x v.2.2.2.2 ∧ u.2.2.2.2 ≤ 3 ∧ u.1 = v.1 ∧ u.2.1 = v.2.1 ∧ u.2.2.1 = v.2.2.1 := by
  rcases h with ⟨a, rfl⟩ | ⟨s, hs, rfl, rfl⟩ | ⟨a, rfl, rfl⟩
  · exact ⟨nxA_no a, fun s hs e => absurd e (a s hs), h3, rfl, rfl, rfl⟩
  · refine ⟨by rw [nxA_sg (by omega) (by omega), if_neg (by omega)], fun r hr e => ?_, h3, rfl, rfl, rfl⟩
    rw [nI_eq (by omega) (by omega)] at e; omega
  · refine ⟨by rw [nxA_sg a (Nat.le_refl _), if_pos rfl]; rfl, fun r hr e => ?_, a, rfl, rfl, rfl⟩
    rw [nI_eq (by omega) (by omega)] at e; omega
theorem tmI_cong {u v : RV} (h1 : u.1 = v.1) (h2 : u.2.1 = v.2.1) (j : Nat) : tmI u j = tmI v j := by
  cases j with
  | zero => exact h1
  | succ j => show u.2.1 j = v.2.1 j; rw [h2]
theorem nxA_m1 (m : Nat) : nxA (-1) m = m := nxA_no (fun s hs e => nI_m1 (by omega) e.symm)
theorem ordA_m1 (m : Nat) : ordA (-1) m := fun s hs e => absurd e.symm (nI_m1 (by omega))
/-- an ARG is read: the RULE stays in order -/
theorem rdP_arg {tk : Nat → Tk} {q q' : PQ} {v v' : RV} {k i : Nat} {b : Bool} (h : pArg tk q v k i b = .inr (q', v')) (hv : rdP q v i) (hp : (tk k).2.1 ≤ 400) (h2 : b = true → tmI v i 2 = -1) (h3 : tmI v i 3 = -1) : rdP q' v' i ∧ (∀ j, j < i → tmI v' j = tmI v j) ∧ extQ q q' ∧ q'.2.2 = q.2.2 ∧ (tmI v' i 0 = tmI v i 0 ∧ tmI v' i 1 = tmI v i 1 ∧ tmI v' i 4 = tmI v i 4) ∧ (b = true → ¬ tmI v' i 2 = -1 ∧ tmI v' i 3 = -1) ∧ (b = false → tmI v' i 2 = tmI v i 2 ∧ ¬ tmI v' i 3 = -1) := by
  obtain ⟨⟨p1, p2⟩, ⟨p3, p4, p5⟩, ⟨p6, p7⟩, p8, p9, p10, p11⟩ := hv
  obtain ⟨x, u, rfl, hn, ox, hx, ex, eq2, hq⟩ := pArg_res h p1 p5
  obtain ⟨n1, n2, n3, n4, n5, n6⟩ := newA_nx hn p5
  obtain ⟨g0, g1, g4, gt, gf⟩ := tArg_get (tmI v i) b x (nI (tk k).2.1)
  have hb : bM u i = bM v i := bM_lt (fun m _ => tmI_cong n4 n5 m)
  have hcur : tmI (stT u i (tArg (tmI v i) b x (nI (tk k).2.1))) i = tArg (tmI v i) b x (nI (tk k).2.1) := stT_tm _ _ _
  have hoth : ∀ j, j < i → tmI (stT u i (tArg (tmI v i) b x (nI (tk k).2.1))) j = tmI v j := fun j hj => (tmI_st_ne (by omega)).trans (tmI_cong n4 n5 j)
  have hms : mS v i = nxA (tmI v i 3) (nxA (tmI v i 2) (bM v i)) := mS_eq v i
  rw [h3, nxA_m1, p7] at hms
  have hbs : bM (stT u i (tArg (tmI v i) b x (nI (tk k).2.1))) i = bM v i := (bM_st _ _ _).trans hb
  refine ⟨⟨⟨hq, by rw [eq2]; exact p2⟩, ⟨by rw [stT_sz]; exact n6.trans p3, p4, by rw [stT_sz]; exact n3⟩, ⟨fun j hj => ?_, ?_⟩, fun j hj => ?_, ?_, ?_, ?_⟩, hoth, ex, eq2, ?_, ?_, ?_⟩
  · by_cases e : j = i
    · subst e
      rw [hcur, hbs]
      cases b with
      | true =>
        rw [(gt rfl).1, (gt rfl).2.1, h3]
        rw [h2 rfl, nxA_m1] at hms
        exact ⟨by rw [← hms]; exact n2, ordA_m1 _⟩
      | false =>
        rw [(gf rfl).1, (gf rfl).2.1]
        exact ⟨(p6 j (Nat.le_refl _)).1, by rw [← hms]; exact n2⟩
    · rw [hoth j (by omega), bM_lt (w := v) (fun m hm => hoth m (by omega))]
      exact p6 j hj
  · rw [mS_eq, hcur, hbs, stT_sz]
    cases b with
    | true =>
      rw [(gt rfl).1, (gt rfl).2.1, h3, nxA_m1]
      rw [h2 rfl, nxA_m1] at hms
      rw [← hms]; exact n1
    | false =>
      rw [(gf rfl).1, (gf rfl).2.1, ← hms]; exact n1
  · rw [hoth j hj]; exact (p8 j hj).ext ex
  · rw [hcur]
    cases b with
    | true => rw [(gt rfl).1]; exact ox
    | false => rw [(gf rfl).1]; exact okA_mono ex.1 p9
  · rw [hcur]
    cases b with
    | true => rw [(gt rfl).2.1]; exact okA_mono ex.1 p10
    | false => rw [(gf rfl).2.1]; exact ox
  · rw [hcur]
    unfold plP
    cases b with
    | true =>
      rw [(gt rfl).2.1, (gt rfl).2.2.1, (gt rfl).2.2.2]
      exact ⟨Or.inr ⟨_, hp, rfl⟩, p11.2⟩
    | false =>
      rw [(gf rfl).1, (gf rfl).2.2.1, (gf rfl).2.2.2]
      exact ⟨p11.1, Or.inr ⟨_, hp, rfl⟩⟩
  · rw [hcur]; exact ⟨g0, g1, g4⟩
  · intro z; rw [hcur, (gt z).1, (gt z).2.1]; exact ⟨hx, h3⟩
  · intro z; rw [hcur, (gf z).1, (gf z).2.1]; exact ⟨rfl, hx⟩
theorem rdP_st {q : PQ} {v : RV} {i : Nat} (h : rdP q v i) {f : Nat → Int32} (h2 : f 2 = tmI v i 2) (h3 : f 3 = tmI v i 3) (h5 : f 5 = tmI v i 5) (h6 : f 6 = tmI v i 6) : rdP q (stT v i f) i ∧ ∀ j, j < i → tmI (stT v i f) j = tmI v j := by
  obtain ⟨p1, ⟨p3, p4, p5⟩, ⟨p6, p7⟩, p8, p9, p10, p11⟩ := h
  have hoth : ∀ j, j < i → tmI (stT v i f) j = tmI v j := fun j hj => tmI_st_ne (by omega)
  refine ⟨⟨p1, ⟨by rw [stT_sz]; exact p3, p4, by rw [stT_sz]; exact p5⟩, ⟨fun j hj => ?_, ?_⟩, fun j hj => by rw [hoth j hj]; exact p8 j hj, by rw [stT_tm, h2]; exact p9, by rw [stT_tm, h3]; exact p10, ?_⟩, hoth⟩
  · by_cases e : j = i
    · subst e
      rw [stT_tm, bM_st, h2, h3]; exact p6 j hj
    · rw [hoth j (by omega), bM_lt (w := v) (fun m hm => hoth m (by omega))]; exact p6 j hj
  · rw [mS_eq, stT_tm, bM_st, h2, h3, stT_sz, ← mS_eq]; exact p7
  · rw [stT_tm]; unfold plP; rw [h2, h3, h5, h6]; exact p11
theorem rdP.ext {q q' : PQ} {v : RV} {i : Nat} (h : rdP q v i) (x : extQ q q') (h1 : q'.1 ≤ 10 ∧ q'.2.2.1 ≤ 10) : rdP q' v i :=
  ⟨h1, h.2.1, h.2.2.1, fun j hj => (h.2.2.2.1 j hj).ext x, okA_mono x.1 h.2.2.2.2.1, okA_mono x.1 h.2.2.2.2.2.1, h.2.2.2.2.2.2⟩
theorem plC_cases (f : Nat → Int32) (h : f 2 = -1 → f 3 = -1) : (f 2 = -1 ↔ plC f = 0) ∧ (f 3 = -1 ↔ plC f < 2) := by
  unfold plC
  by_cases a : f 2 = -1
  · rw [if_pos a]; exact ⟨⟨fun _ => rfl, fun _ => a⟩, fun _ => by omega, fun _ => h a⟩
  · rw [if_neg a]
    by_cases b : f 3 = -1
    · rw [if_pos b]; exact ⟨⟨fun z => absurd z a, fun z => by omega⟩, fun _ => by omega, fun _ => b⟩
    · rw [if_neg b]; exact ⟨⟨fun z => absurd z a, fun z => by omega⟩, fun z => absurd z b, fun z => by omega⟩
theorem rdP_fin {q0 q q' : PQ} {v v' : RV} {i kd pl k k' : Nat} {nw : Bool} (h : pFin q v i kd pl nw k = .inr (q', v', k')) (h0 : rdP q v i) (hx0 : extQ q0 q) (hk0 : nw = true → q0.2.2.1 ≤ kd) (hd : ∀ j, j < i → tmD q0 (tmI v j)) (hkd : kd < q.2.2.1) (h1 : tmI v i 1 = nI kd) (hty : tmI v i 0 = 0 ∨ tmI v i 0 = 1) (h23 : tmI v i 2 = -1 → tmI v i 3 = -1) : v' = v ∧ k' = k ∧ rdP q' v i ∧ tmD q' (tmI v i) ∧ extQ q0 q' := by
  unfold pFin at h
  cases e : pHas q (tmI v i) kd pl nw with
  | inl z => rw [e] at h; cases h
  | inr q2 =>
    rw [e] at h
    injection h with h; injection h with e1 e2; injection e2 with e2 e3
    subst e1; subst e2; subst e3
    have hx := pHas_ext hx0 hk0 e
    unfold pHas at e
    by_cases c : (if nw = true then pcU q kd (plC (tmI v i)) else q).2.2.2.2 kd = plC (tmI v i)
    · rw [if_pos c] at e
      injection e with e
      rw [e] at c
      have eq1 : q2.1 = q.1 ∧ q2.2.2.1 = q.2.2.1 := by rw [← e]; cases nw <;> exact ⟨rfl, rfl⟩
      obtain ⟨⟨p1, p2⟩, p3, p6, p8, p9, p10, p11⟩ := h0
      have hkc : (tmI v i 1).toNatClampNeg = kd := by rw [h1]; exact nI_clamp (by omega)
      refine ⟨rfl, rfl, ⟨⟨by rw [eq1.1]; exact p1, by rw [eq1.2]; exact p2⟩, p3, p6, fun j hj => (hd j hj).ext hx, by rw [eq1.1]; exact p9, by rw [eq1.1]; exact p10, p11⟩, ⟨by rcases hty with z | z; exact Or.inl z; exact Or.inr (Or.inl z), by rw [eq1.1]; exact p9, by rw [eq1.1]; exact p10, p11, fun _ => ⟨⟨by rw [hkc]; exact h1, by rw [hkc, eq1.2]; exact hkd⟩, ?_⟩⟩, hx⟩
      unfold plH
      rw [hkc, c]
      exact plC_cases _ h23
    · rw [if_neg c] at e; cases e
theorem rdP_at1 {tk : Nat → Tk} {q0 q q' : PQ} {v v' : RV} {i kd pl k k' : Nat} {nw : Bool} (h : pAt1 tk q v k i kd pl nw = .inr (q', v', k')) (hp : ∀ j, (tk j).2.1 ≤ 400 ∨ (tk j).1 < 2) (h0 : rdP q v i) (hx0 : extQ q0 q) (hk0 : nw = true → q0.2.2.1 ≤ kd) (hd : ∀ j, j < i → tmD q0 (tmI v j)) (hkd : kd < q.2.2.1) (h1 : tmI v i 1 = nI kd) (hty : tmI v i 0 = 0 ∨ tmI v i 0 = 1) (h2 : tmI v i 2 = -1) (h3 : tmI v i 3 = -1) : rdP q' v' i ∧ tmD q' (tmI v' i) ∧ extQ q0 q' ∧ tmI v' i 0 = tmI v i 0 ∧ (∀ j, j < i → tmI v' j = tmI v j) ∧ k ≤ k' := by
  have hpl : ∀ {q q' : PQ} {v v' : RV} {j : Nat} {b : Bool}, pArg tk q v j i b = .inr (q', v') → (tk j).2.1 ≤ 400 := fun {q q' v v' j b} y => (hp j).elim id (fun z => absurd (pArg_ty y) (by omega))
  unfold pAt1 at h
  by_cases a : (tk k).1 = 40
  · rw [if_pos a] at h
    cases e : pArg tk q v (k + 1) i true with
    | inl z => rw [e] at h; cases h
    | inr z =>
      obtain ⟨q2, v2⟩ := z
      rw [e] at h
      simp only [] at h
      obtain ⟨r1, r2, r3, r4, ⟨r5, r6, r7⟩, r8, -⟩ := rdP_arg e h0 (hpl e) (fun _ => h2) h3
      have hx2 := hx0.tr r3
      have hkd2 : kd < q2.2.2.1 := by rw [r4]; exact hkd
      by_cases b : (tk (k + 2)).1 = 44
      · rw [if_pos b] at h
        cases e3 : pArg tk q2 v2 (k + 3) i false with
        | inl z => rw [e3] at h; cases h
        | inr z =>
          obtain ⟨q3, v3⟩ := z
          rw [e3] at h
          simp only [] at h
          obtain ⟨s1, s2, s3, s4, ⟨s5, s6, s7⟩, -, s8⟩ := rdP_arg e3 r1 (hpl e3) (fun z => by cases z) (r8 rfl).2
          unfold pAt2 at h
          by_cases c : (tk (k + 4)).1 = 41
          · rw [if_pos c] at h
            obtain ⟨t1, t2, t3, t4, t5⟩ := rdP_fin h s1 (hx2.tr s3) hk0 (fun j hj => by rw [s2 j hj, r2 j hj]; exact hd j hj) (by rw [s4]; exact hkd2) (s6.trans (r6.trans h1)) (by rw [s5, r5]; exact hty) (fun z => absurd ((s8 rfl).1.symm.trans z) (r8 rfl).1)
            subst t1
            exact ⟨t3, t4, t5, s5.trans r5, fun j hj => (s2 j hj).trans (r2 j hj), by omega⟩
          · rw [if_neg c] at h; cases h
      · rw [if_neg b] at h
        unfold pAt2 at h
        by_cases c : (tk (k + 2)).1 = 41
        · rw [if_pos c] at h
          obtain ⟨t1, t2, t3, t4, t5⟩ := rdP_fin h r1 hx2 hk0 (fun j hj => by rw [r2 j hj]; exact hd j hj) hkd2 (r6.trans h1) (by rw [r5]; exact hty) (fun z => absurd z (r8 rfl).1)
          subst t1
          exact ⟨t3, t4, t5, r5, r2, by omega⟩
        · rw [if_neg c] at h; cases h
  · rw [if_neg a] at h
    obtain ⟨t1, t2, t3, t4, t5⟩ := rdP_fin h h0 hx0 hk0 hd hkd h1 hty (fun _ => h3)
    subst t1
    exact ⟨t3, t4, t5, rfl, fun j hj => rfl, by omega⟩
theorem kdV_get (v : RV) (i kd pl : Nat) : kdV v i kd pl = stT v i (upd (upd (tmI v i) 1 (nI kd)) 4 (nI pl)) := rfl
theorem rdP_kd {q : PQ} {v : RV} {i kd pl : Nat} (h : rdP q v i) : rdP q (kdV v i kd pl) i ∧ (∀ j, j < i → tmI (kdV v i kd pl) j = tmI v j) ∧ tmI (kdV v i kd pl) i 0 = tmI v i 0 ∧ tmI (kdV v i kd pl) i 2 = tmI v i 2 ∧ tmI (kdV v i kd pl) i 3 = tmI v i 3 := by
  obtain ⟨a, b⟩ := rdP_st h (f := upd (upd (tmI v i) 1 (nI kd)) 4 (nI pl)) rfl rfl rfl rfl
  refine ⟨a, b, ?_, ?_, ?_⟩ <;> (unfold kdV; rw [stT_tm]; rfl)
theorem rdP_atom {tk : Nat → Tk} {q q' : PQ} {v v' : RV} {i k k' : Nat} (h : pAtom tk q v k i = .inr (q', v', k')) (hp : ∀ j, (tk j).2.1 ≤ 400 ∨ (tk j).1 < 2) (h0 : rdP q v i) (hty : tmI v i 0 = 0 ∨ tmI v i 0 = 1) (h2 : tmI v i 2 = -1) (h3 : tmI v i 3 = -1) : rdP q' v' i ∧ tmD q' (tmI v' i) ∧ extQ q q' ∧ tmI v' i 0 = tmI v i 0 ∧ (∀ j, j < i → tmI v' j = tmI v j) ∧ k + 1 ≤ k' := by
  unfold pAtom at h
  by_cases a : (tk k).1 = 2 ∧ ¬ (tk k).2.2 = NOTW
  · rw [if_pos a] at h
    by_cases b : wLook q.2.2.2.1 (tk k).2.2 q.2.2.1 < q.2.2.1
    · rw [if_pos b] at h
      obtain ⟨r1, r2, r3, r4, r5⟩ := rdP_kd (kd := wLook q.2.2.2.1 (tk k).2.2 q.2.2.1) (pl := (tk k).2.1) h0
      obtain ⟨s1, s2, s3, s4, s5, s6⟩ := rdP_at1 h hp r1 (extQ_rf q) (fun z => by cases z) (fun j hj => by rw [r2 j hj]; exact h0.2.2.2.1 j hj) b (kdV_1 _ _ _ _).1 (by rw [r3]; exact hty) (r4.trans h2) (r5.trans h3)
      exact ⟨s1, s2, s3, s4.trans r3, fun j hj => (s5 j hj).trans (r2 j hj), s6⟩
    · rw [if_neg b] at h
      by_cases c : q.2.2.1 < 10
      · rw [if_pos c] at h
        have hx := extQ_ki q (tk k).2.2
        obtain ⟨r1, r2, r3, r4, r5⟩ := rdP_kd (kd := q.2.2.1) (pl := (tk k).2.1) (h0.ext hx ⟨h0.1.1, c⟩)
        obtain ⟨s1, s2, s3, s4, s5, s6⟩ := rdP_at1 h hp r1 hx (fun _ => Nat.le_refl _) (fun j hj => by rw [r2 j hj]; exact h0.2.2.2.1 j hj) (Nat.lt_succ_self _) (kdV_1 _ _ _ _).1 (by rw [r3]; exact hty) (r4.trans h2) (r5.trans h3)
        exact ⟨s1, s2, s3, s4.trans r3, fun j hj => (s5 j hj).trans (r2 j hj), s6⟩
      · rw [if_neg c] at h; cases h
  · rw [if_neg a] at h; cases h
