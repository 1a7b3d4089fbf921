/-! RuleCourt$Join: begin, bind, reach, reachFor, seekLeast, leastNumberOf -/
theorem ite_inv {α : Type} {Pr : α → Prop} {c : Prop} [Decidable c] {a b : α} (ha : Pr a) (hb : Pr b) : Pr (if c then a else b) := by split <;> assumption
theorem w2P_ind {Inv : JS → Prop} {t : Nat → Int32} {x : Nat} {fit high : Int32} {θ : Nat → Option Nat} {go : Int32 → (Nat → Option Nat) → JS → JS} (hg : ∀ hi τ ρ, Inv ρ → Inv (go hi τ ρ)) : ∀ (l : List Nat) (σ : JS), Inv σ → Inv (w2P t x fit high θ go l σ)
  | [], _, h => h
  | y :: ys, σ, h => by
    simp only [w2P]
    exact ite_inv h (ite_inv (w2P_ind hg ys σ h) (w2P_ind hg ys _ (hg _ _ _ h)))
theorem w1P_ind {Inv : JS → Prop} {t : Nat → Int32} {nt : Nat} {high : Int32} {θ : Nat → Option Nat} {go : Int32 → (Nat → Option Nat) → JS → JS} (hg : ∀ hi τ ρ, Inv ρ → Inv (go hi τ ρ)) : ∀ (l : List Nat) (σ : JS), Inv σ → Inv (w1P t nt high θ go l σ)
  | [], _, h => h
  | y :: ys, σ, h => by
    simp only [w1P]
    split
    · exact h
    · split
      · exact w1P_ind hg ys σ h
      · exact w1P_ind hg ys _ (w2P_ind hg _ _ h)
theorem wkP_ind {Inv : JS → Prop} {v : RV} {nt : Nat} {cs : Bool} {aim : Nat} {want : Int32} (hr : ∀ i σ, Inv σ → Inv (rchP i σ)) (ha : ∀ high θ σ, Inv σ → Inv (arrP v cs aim want high θ σ)) : ∀ (n i : Nat) (high : Int32) (θ : Nat → Option Nat) (σ : JS), Inv σ → Inv (wkP v nt cs aim want n i high θ σ)
  | 0, i, high, θ, σ, h => ha _ _ _ (hr _ _ h)
  | n + 1, i, high, θ, σ, h => w1P_ind (fun hi τ ρ q => wkP_ind hr ha n (i + 1) hi τ ρ q) _ _ (hr _ _ h)
/-- where nothing is told the model stays -/
theorem wkP_keep {v : RV} {nt : Nat} {cs : Bool} {aim : Nat} {want : Int32} (h0 : aim ≠ 0) (n i : Nat) (high : Int32) (θ : Nat → Option Nat) (σ : JS) : (wkP v nt cs aim want n i high θ σ).1 = σ.1 ∧ (wkP v nt cs aim want n i high θ σ).2.1 = σ.2.1 ∧ (wkP v nt cs aim want n i high θ σ).2.2.1 = σ.2.2.1 ∧ (wkP v nt cs aim want n i high θ σ).2.2.2.1 = σ.2.2.2.1 := by
  refine wkP_ind (Inv := fun ρ => ρ.1 = σ.1 ∧ ρ.2.1 = σ.2.1 ∧ ρ.2.2.1 = σ.2.2.1 ∧ ρ.2.2.2.1 = σ.2.2.2.1) (fun i ρ h => h) (fun hi τ ρ h => ?_) n i high θ σ ⟨rfl, rfl, rfl, rfl⟩
  unfold arrP
  rw [if_neg h0]
  split
  · exact h
  · split
    · exact h
    · exact h
def cpT (θ lθ : Nat → Option Nat) : Nat → Option Nat := fun s => if s < 3 then θ s else lθ s
theorem bfP_cpy (θ lθ : Nat → Option Nat) : va_cpy (bfP θ) (bfP lθ) 0 0 3 = bfP (cpT θ lθ) := by
  funext k
  simp only [va_cpy, bfP, cpT]
  by_cases h : k < 3
  · rw [if_pos ⟨by omega, by omega⟩, if_pos h]
    congr 2
    omega
  · rw [if_neg (by omega), if_neg h]
theorem wkP_least {v : RV} {nt : Nat} {cs : Bool} {aim : Nat} {want : Int32} (n i : Nat) (high : Int32) (θ : Nat → Option Nat) (σ : JS) (h : ∃ lθ, σ.2.2.2.2.2.2 = bfP lθ) : ∃ lθ, (wkP v nt cs aim want n i high θ σ).2.2.2.2.2.2 = bfP lθ := by
  refine wkP_ind (Inv := fun ρ => ∃ lθ, ρ.2.2.2.2.2.2 = bfP lθ) (fun i ρ h => h) (fun hi τ ρ h => ?_) n i high θ σ h
  unfold arrP
  split
  · unfold tkP
    split <;> exact h
  · split
    · exact h
    · split
      · obtain ⟨lθ, e⟩ := h
        exact ⟨cpT τ lθ, by show va_cpy (bfP τ) ρ.2.2.2.2.2.2 0 0 3 = _; rw [e, bfP_cpy]⟩
      · exact h
def clT (θ : Nat → Option Nat) : Nat → Option Nat := fun s => if s < 3 then none else θ s
theorem bfP_clr (θ : Nat → Option Nat) : fa_fill (fun _ => (-1 : Int32)) (bfP θ) 3 = bfP (clT θ) := by
  funext k
  simp only [fa_fill, bfP, clT]
  split <;> rfl
theorem okTh_cl (nt : Nat) (θ : Nat → Option Nat) : okTh nt (clT θ) := by
  intro s t hs e
  simp only [clT, if_pos hs] at e
  cases e
/-- Join between its works -/
def jnI (h : xHp) : Prop := ∃ (m0 r0 : Value) (aim0 rd0 wt0 : Int32) (en0 : Bool) (θ0 lθ : Nat → Option Nat), h.1 187 = some (.inr (2, [.ref 3, m0, r0, .int aim0, .ref 188, .int rd0, .int (bi en0), .int wt0, .ref 189])) ∧ h.1 188 = some (.inl (0, 3, .inl (bfP θ0))) ∧ h.1 189 = some (.inl (0, 3, .inl (bfP lθ)))
theorem jnAt.idle {h : xHp} {md rl aim : Nat} {cs : Bool} {wt : Int32} {θ : Nat → Option Nat} {σ : JS} (hJ : jnAt h md rl cs aim wt θ σ) (hl : ∃ lθ, σ.2.2.2.2.2.2 = bfP lθ) : jnI h := by
  obtain ⟨lθ, e⟩ := hl
  exact ⟨_, _, _, _, _, _, θ, lθ, hJ.1, hJ.2.1, by rw [← e]; exact hJ.2.2.1⟩
set_option maxRecDepth 100000 in
set_option maxHeartbeats 4000000 in
theorem k_X2_begin {G : xG} {h : xHp} {md rl aim : Nat} {m0 r0 : Value} {aim0 rd0 wt0 clk : Int32} {en0 cs : Bool} {θ0 lθ : Nat → Option Nat} {f g c : Nat → Int32} (h1 : h.1 187 = some (.inr (2, [.ref 3, m0, r0, .int aim0, .ref 188, .int rd0, .int (bi en0), .int wt0, .ref 189]))) (h2 : h.1 188 = some (.inl (0, 3, .inl (bfP θ0)))) (h3 : h.1 189 = some (.inl (0, 3, .inl (bfP lθ)))) (hM : mdAt h md (md + 1) (md + 2) (md + 3) cs f g c clk) (hm : okMd md) : MX G mX2_begin 2 0 0 [.ref 187, .ref md, .ref rl, .int (nI aim)] h (fun o h' => o = .inl none ∧ jnAt h' md rl cs aim wt0 (clT θ0) (f, g, c, clk, 0, false, bfP lθ) ∧ xfr h h' [187, 188]) := by
  refine MX.of [(0, .ref 187), (1, .ref md), (2, .ref rl), (3, .int (nI aim))] (by decide) rfl (Nat.le_of_ble_eq_true rfl) rfl ?_
  refine x_aload_n dX2_begin_0 rfl ?_
  refine x_aload_n dX2_begin_1 rfl ?_
  refine x_put [.ref 3, .ref md, r0, .int aim0, .ref 188, .int rd0, .int (bi en0), .int wt0, .ref 189] lf_X2_65 dX2_begin_2 h1 (Nat.le_of_ble_eq_true rfl) rfl rfl rfl ?_
  refine x_aload_n dX2_begin_5 rfl ?_
  refine x_aload_n dX2_begin_6 rfl ?_
  refine x_put [.ref 3, .ref md, .ref rl, .int aim0, .ref 188, .int rd0, .int (bi en0), .int wt0, .ref 189] lf_X2_69 dX2_begin_7 (xup_self _ _ _) (Nat.le_of_ble_eq_true rfl) rfl rfl rfl ?_
  refine x_aload_n dX2_begin_10 rfl ?_
  refine x_iload_n dX2_begin_11 rfl ?_
  refine x_put [.ref 3, .ref md, .ref rl, .int (nI aim), .ref 188, .int rd0, .int (bi en0), .int wt0, .ref 189] lf_X2_73 dX2_begin_12 (xup_self _ _ _) (Nat.le_of_ble_eq_true rfl) rfl rfl rfl ?_
  refine x_aload_n dX2_begin_15 rfl ?_
  refine x_iconst (v := 0) dX2_begin_16 (by decide) ?_
  refine x_put [.ref 3, .ref md, .ref rl, .int (nI aim), .ref 188, .int 0, .int (bi en0), .int wt0, .ref 189] lf_X2_30 dX2_begin_17 (xup_self _ _ _) (Nat.le_of_ble_eq_true rfl) rfl rfl rfl ?_
  refine x_aload_n dX2_begin_20 rfl ?_
  refine x_iconst (v := 0) dX2_begin_21 (by decide) ?_
  refine x_put [.ref 3, .ref md, .ref rl, .int (nI aim), .ref 188, .int 0, .int 0, .int wt0, .ref 189] lf_X2_57 dX2_begin_22 (xup_self _ _ _) (Nat.le_of_ble_eq_true rfl) rfl rfl rfl ?_
  refine x_aload_n dX2_begin_25 rfl ?_
  refine x_get lf_X2_9 dX2_begin_26 (xup_self _ _ _) rfl ?_
  refine x_iconst (v := (-1)) dX2_begin_29 (by decide) ?_
  refine x_callS (As := [.ref 188, .int (-1)]) (st := []) ls_X2_76 (k_fill ((xup_ne (by decide)).trans ((xup_ne (by decide)).trans ((xup_ne (by decide)).trans ((xup_ne (by decide)).trans ((xup_ne (by decide)).trans h2))))) (by decide)) dX2_begin_30 rfl rfl (Nat.le_of_ble_eq_true rfl) ⟨by decide, by decide⟩ ⟨by decide, by decide⟩ (fun v h9 q => ?_) (fun _ _ _ _ _ q => by cases q.1)
  obtain ⟨ev, eh⟩ := q
  rw [eh, bfP_clr]
  cases ev
  exact x_vret dX2_begin_33 rfl (Nat.le_refl _) (Nat.le_refl _) ⟨rfl, ⟨((xup_ne (by decide)).trans (xup_self _ _ _)), (xup_self _ _ _), ((xup_ne (by decide)).trans ((xup_ne (by decide)).trans ((xup_ne (by decide)).trans ((xup_ne (by decide)).trans ((xup_ne (by decide)).trans ((xup_ne (by decide)).trans h3)))))), ((xup_ne (by unfold okMd at hm; omega)).trans ((xup_ne (by unfold okMd at hm; omega)).trans ((xup_ne (by unfold okMd at hm; omega)).trans ((xup_ne (by unfold okMd at hm; omega)).trans ((xup_ne (by unfold okMd at hm; omega)).trans ((xup_ne (by unfold okMd at hm; omega)).trans hM.1)))))), ((xup_ne (by unfold okMd at hm; omega)).trans ((xup_ne (by unfold okMd at hm; omega)).trans ((xup_ne (by unfold okMd at hm; omega)).trans ((xup_ne (by unfold okMd at hm; omega)).trans ((xup_ne (by unfold okMd at hm; omega)).trans ((xup_ne (by unfold okMd at hm; omega)).trans hM.2.1)))))), ((xup_ne (by unfold okMd at hm; omega)).trans ((xup_ne (by unfold okMd at hm; omega)).trans ((xup_ne (by unfold okMd at hm; omega)).trans ((xup_ne (by unfold okMd at hm; omega)).trans ((xup_ne (by unfold okMd at hm; omega)).trans ((xup_ne (by unfold okMd at hm; omega)).trans hM.2.2.1)))))), ((xup_ne (by unfold okMd at hm; omega)).trans ((xup_ne (by unfold okMd at hm; omega)).trans ((xup_ne (by unfold okMd at hm; omega)).trans ((xup_ne (by unfold okMd at hm; omega)).trans ((xup_ne (by unfold okMd at hm; omega)).trans ((xup_ne (by unfold okMd at hm; omega)).trans hM.2.2.2))))))⟩, (((((((xfr_rf _ _).up (by simp)).up (by simp)).up (by simp)).up (by simp)).up (by simp)).up (by simp))⟩
def bdP (a : Int32) (x : Nat) (θ : Nat → Option Nat) : Bool × (Nat → Option Nat) :=
  if a < 100 then (decide (a = -1) || decide (a = nI x), θ) else
    if θ (a.toNatClampNeg - 100) = none then (true, va_up θ (a.toNatClampNeg - 100) (some x)) else (decide (θ (a.toNatClampNeg - 100) = some x), θ)
def bhP (v : RV) (n : Nat) (θ : Nat → Option Nat) : Bool × (Nat → Option Nat) :=
  if (bdP (v.1 2) (n / 10 % 10) θ).1 = true then bdP (v.1 3) (n % 10) (bdP (v.1 2) (n / 10 % 10) θ).2 else (false, (bdP (v.1 2) (n / 10 % 10) θ).2)
theorem bdP_sg {s : Nat} (hs : s < 3) (x : Nat) (θ : Nat → Option Nat) : bdP (nI (100 + s)) x θ = if θ s = none then (true, va_up θ s (some x)) else (decide (θ s = some x), θ) := by
  unfold bdP
  rw [if_neg (sg_not hs), sg_cl hs]
theorem bdP_th {a : Int32} (h : a < 100) (x : Nat) (θ : Nat → Option Nat) : bdP a x θ = (decide (a = -1) || decide (a = nI x), θ) := by
  unfold bdP
  rw [if_pos h]
theorem bdP_ok {nt : Nat} {a : Int32} {x : Nat} {θ : Nat → Option Nat} (hx : x < nt) (h : okTh nt θ) : okTh nt (bdP a x θ).2 := by
  unfold bdP
  split
  · exact h
  · split
    · exact okTh_up h hx
    · exact h
theorem bfP_some {nt : Nat} {θ : Nat → Option Nat} {s x : Nat} (hθ : okTh nt θ) (hn : nt ≤ 10) (hs : s < 3) (hx : x < 10) (hne : ¬ θ s = none) : bfP θ s = nI x ↔ θ s = some x := by
  unfold bfP
  cases e : θ s with
  | none => exact absurd e hne
  | some t =>
    have := hθ s t hs e
    show nI t = nI x ↔ _
    rw [nI_eq (by omega) (by omega)]
    exact ⟨fun q => by rw [q], fun q => by cases q; rfl⟩
def bd_Q (md rl : Nat) (cs : Bool) (aim : Nat) (wt : Int32) (r : Bool × (Nat → Option Nat)) (σ : JS) (h : xHp) : Option Value ⊕ Nat → xHp → Prop := fun o h' => o = .inl (some (.int (bi r.1))) ∧ jnAt h' md rl cs aim wt r.2 σ ∧ xfr h h' [188]
set_option maxRecDepth 100000 in
set_option maxHeartbeats 4000000 in
theorem k_X2_bind {G : xG} {h : xHp} {md rl aim nt : Nat} {cs : Bool} {wt : Int32} {θ : Nat → Option Nat} {σ : JS} (hJ : jnAt h md rl cs aim wt θ σ) {a : Int32} {x : Nat} (ha : okA nt a) (hx : x < 10) (hn : nt ≤ 10) (hθ : okTh nt θ) (hm : okMd md) : MX G mX2_bind 1 0 0 [.ref 187, .int a, .int (nI x)] h (bd_Q md rl cs aim wt (bdP a x θ) σ h) := by
  refine MX.of [(0, .ref 187), (1, .int a), (2, .int (nI x))] (by decide) rfl (Nat.le_of_ble_eq_true rfl) rfl ?_
  refine x_iload_n dX2_bind_0 rfl ?_
  refine x_bipush (v := 100) dX2_bind_1 (by decide) ?_
  refine x_icmp_ge 22 dX2_bind_3 (by decide) (fun c_3 => ?_) (fun c_3 => ?_)
  · obtain ⟨s, hs, rfl⟩ := okA_ge ha hn (Int32.not_lt.mpr c_3)
    rw [bdP_sg hs]
    refine x_iload_n dX2_bind_22 rfl ?_
    refine x_bipush (v := 100) dX2_bind_23 (by decide) ?_
    refine x_isub dX2_bind_25 ?_
    refine x_top (y := nI s) (show nI (100 + s) - 100 = nI s from (pk_sub (a := 100 + s) (b := 100) (by omega)).trans (by congr 1; omega)) ?_
    refine x_istore_n [(0, .ref 187), (1, .int (nI (100 + s))), (2, .int (nI x)), (3, .int (nI s))] dX2_bind_26 (by decide) rfl rfl ?_
    refine x_aload_n dX2_bind_27 rfl ?_
    refine x_get lf_X2_9 dX2_bind_28 hJ.1 rfl ?_
    refine x_iload_n dX2_bind_31 rfl ?_
    refine x_ialdN (j := s) hJ.2.1 rfl (by omega) (by decide) dX2_bind_32 ?_
    refine x_iconst (v := (-1)) dX2_bind_33 (by decide) ?_
    refine x_icmp_eq 53 dX2_bind_34 (by decide) (fun c_34 => ?_) (fun c_34 => ?_)
    · refine x_aload_n dX2_bind_53 rfl ?_
      refine x_get lf_X2_9 dX2_bind_54 hJ.1 rfl ?_
      refine x_iload_n dX2_bind_57 rfl ?_
      refine x_iload_n dX2_bind_58 rfl ?_
      refine x_iastN (j := s) hJ.2.1 rfl (by omega) (by decide) dX2_bind_59 ?_
      refine x_iconst (v := 1) dX2_bind_60 (by decide) ?_
      rw [if_pos (bfP_none hθ hn hs c_34), bfP_up]
      exact x_iret dX2_bind_61 rfl rfl (Nat.le_refl _) (Nat.le_refl _) ⟨rfl, ⟨((xup_ne (by decide)).trans hJ.1), (xup_self _ _ _), ((xup_ne (by decide)).trans hJ.2.2.1), ((xup_ne (by unfold okMd at hm; omega)).trans hJ.2.2.2.1), ((xup_ne (by unfold okMd at hm; omega)).trans hJ.2.2.2.2.1), ((xup_ne (by unfold okMd at hm; omega)).trans hJ.2.2.2.2.2.1), ((xup_ne (by unfold okMd at hm; omega)).trans hJ.2.2.2.2.2.2)⟩, ((xfr_rf _ _).up (by simp))⟩
    · refine x_aload_n dX2_bind_37 rfl ?_
      refine x_get lf_X2_9 dX2_bind_38 hJ.1 rfl ?_
      refine x_iload_n dX2_bind_41 rfl ?_
      refine x_ialdN (j := s) hJ.2.1 rfl (by omega) (by decide) dX2_bind_42 ?_
      refine x_iload_n dX2_bind_43 rfl ?_
      refine x_icmp_ne 51 dX2_bind_44 (by decide) (fun c_44 => ?_) (fun c_44 => ?_)
      · refine x_iconst (v := 0) dX2_bind_51 (by decide) ?_
        exact x_iret dX2_bind_52 rfl rfl (Nat.le_refl _) (Nat.le_refl _) (by first | (rw [if_neg (fun e => c_34 (by unfold bfP; rw [e]; rfl))]; exact ⟨by first | rw [decide_eq_true ((bfP_some hθ hn hs hx (fun e => c_34 (by unfold bfP; rw [e]; rfl))).mp c_44)]; rfl | rw [decide_eq_false (fun q => c_44 ((bfP_some hθ hn hs hx (fun e => c_34 (by unfold bfP; rw [e]; rfl))).mpr q))]; rfl, hJ, xfr_rf _ _⟩) | (rw [bdP_th (Int32.not_le.mp c_3)]; exact ⟨by first | (simp [c_8]; rfl) | (simp [c_8, c_13]; rfl) | (simp [c_8, c_13, bi]), hJ, xfr_rf _ _⟩))
      · refine x_iconst (v := 1) dX2_bind_47 (by decide) ?_
        refine x_goto 52 dX2_bind_48 (by decide) ?_
        exact x_iret dX2_bind_52 rfl rfl (Nat.le_refl _) (Nat.le_refl _) (by first | (rw [if_neg (fun e => c_34 (by unfold bfP; rw [e]; rfl))]; exact ⟨by first | rw [decide_eq_true ((bfP_some hθ hn hs hx (fun e => c_34 (by unfold bfP; rw [e]; rfl))).mp c_44)]; rfl | rw [decide_eq_false (fun q => c_44 ((bfP_some hθ hn hs hx (fun e => c_34 (by unfold bfP; rw [e]; rfl))).mpr q))]; rfl, hJ, xfr_rf _ _⟩) | (rw [bdP_th (Int32.not_le.mp c_3)]; exact ⟨by first | (simp [c_8]; rfl) | (simp [c_8, c_13]; rfl) | (simp [c_8, c_13, bi]), hJ, xfr_rf _ _⟩))
  · refine x_iload_n dX2_bind_6 rfl ?_
    refine x_iconst (v := (-1)) dX2_bind_7 (by decide) ?_
    refine x_icmp_eq 16 dX2_bind_8 (by decide) (fun c_8 => ?_) (fun c_8 => ?_)
    · refine x_iconst (v := 1) dX2_bind_16 (by decide) ?_
      refine x_goto 21 dX2_bind_17 (by decide) ?_
      exact x_iret dX2_bind_21 rfl rfl (Nat.le_refl _) (Nat.le_refl _) (by first | (rw [if_neg (fun e => c_34 (by unfold bfP; rw [e]; rfl))]; exact ⟨by first | rw [decide_eq_true ((bfP_some hθ hn hs hx (fun e => c_34 (by unfold bfP; rw [e]; rfl))).mp c_44)]; rfl | rw [decide_eq_false (fun q => c_44 ((bfP_some hθ hn hs hx (fun e => c_34 (by unfold bfP; rw [e]; rfl))).mpr q))]; rfl, hJ, xfr_rf _ _⟩) | (rw [bdP_th (Int32.not_le.mp c_3)]; exact ⟨by first | (simp [c_8]; rfl) | (simp [c_8, c_13]; rfl) | (simp [c_8, c_13, bi]), hJ, xfr_rf _ _⟩))
    · refine x_iload_n dX2_bind_11 rfl ?_
      refine x_iload_n dX2_bind_12 rfl ?_
      refine x_icmp_ne 20 dX2_bind_13 (by decide) (fun c_13 => ?_) (fun c_13 => ?_)
      · refine x_iconst (v := 0) dX2_bind_20 (by decide) ?_
        exact x_iret dX2_bind_21 rfl rfl (Nat.le_refl _) (Nat.le_refl _) (by first | (rw [if_neg (fun e => c_34 (by unfold bfP; rw [e]; rfl))]; exact ⟨by first | rw [decide_eq_true ((bfP_some hθ hn hs hx (fun e => c_34 (by unfold bfP; rw [e]; rfl))).mp c_44)]; rfl | rw [decide_eq_false (fun q => c_44 ((bfP_some hθ hn hs hx (fun e => c_34 (by unfold bfP; rw [e]; rfl))).mpr q))]; rfl, hJ, xfr_rf _ _⟩) | (rw [bdP_th (Int32.not_le.mp c_3)]; exact ⟨by first | (simp [c_8]; rfl) | (simp [c_8, c_13]; rfl) | (simp [c_8, c_13, bi]), hJ, xfr_rf _ _⟩))
      · refine x_iconst (v := 1) dX2_bind_16 (by decide) ?_
        refine x_goto 21 dX2_bind_17 (by decide) ?_
        exact x_iret dX2_bind_21 rfl rfl (Nat.le_refl _) (Nat.le_refl _) (by first | (rw [if_neg (fun e => c_34 (by unfold bfP; rw [e]; rfl))]; exact ⟨by first | rw [decide_eq_true ((bfP_some hθ hn hs hx (fun e => c_34 (by unfold bfP; rw [e]; rfl))).mp c_44)]; rfl | rw [decide_eq_false (fun q => c_44 ((bfP_some hθ hn hs hx (fun e => c_34 (by unfold bfP; rw [e]; rfl))).mpr q))]; rfl, hJ, xfr_rf _ _⟩) | (rw [bdP_th (Int32.not_le.mp c_3)]; exact ⟨by first | (simp [c_8]; rfl) | (simp [c_8, c_13]; rfl) | (simp [c_8, c_13, bi]), hJ, xfr_rf _ _⟩))
