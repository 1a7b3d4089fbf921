/-! RuleCourt$Judge: settle -/
theorem lcnt_gt {L : Nat → Nat} : ∀ {n k : Nat}, k < n → L k < lcnt L n
  | 0, _, h => absurd h (by omega)
  | n + 1, k, h => by
    show L k < max (lcnt L n) (L n + 1)
    rcases Nat.lt_or_ge k n with e | e
    · have := lcnt_gt (L := L) e
      omega
    · rw [show k = n by omega]
      omega
def jgR (s : Nat → Option Nat) (cs : Bool) (gl : Int32) (σ : JS) : Prop := wfR σ.1 ∧ (∀ n, n < 1000 → rowS σ.1 n = true → ∃ d, s n = some d) ∧ (cs = false → ∀ n, n < 1000 → σ.2.1 n = 0) ∧ ((∀ n d, n < 1000 → s n = some d → fin1 cs s σ n d) ∨ ∃ n, n < 1000 ∧ gl = nI n ∧ rowS σ.1 n = true)
def jg_Q (s : Nat → Option Nat) (cs : Bool) (gl : Int32) (md : Nat) (h0 : xHp) : Option Value ⊕ Nat → xHp → Prop := fun o h' => o = .inl none ∧ ∃ (σ : JS) (rn : Nat → Int32), mdAt h' md (md + 1) (md + 2) (md + 3) cs σ.1 σ.2.1 σ.2.2.1 σ.2.2.2.1 ∧ jnI h' ∧ h'.1 191 = some (.inl (0, 20, .inl rn)) ∧ xfr h0 h' (191 :: jL md) ∧ jgR s cs gl σ
def jgH (h0 h : xHp) (rc : Nat) (fc : Int32) (nt nk : Nat) (lf : Nat → Int32) (ra : Nat → Nat) (V : Nat → RV) (md : Nat) (cs : Bool) (σ : JS) (rn : Nat → Int32) : Prop :=
  bkS h rc fc nt nk lf ra V ∧ h.1 190 = some (.inr (3, [.ref 3, .ref 187, .ref 191])) ∧ h.1 191 = some (.inl (0, 20, .inl rn)) ∧ jnI h ∧ mdAt h md (md + 1) (md + 2) (md + 3) cs σ.1 σ.2.1 σ.2.2.1 σ.2.2.2.1 ∧ xfr h0 h (191 :: jL md)
theorem jgH.B {h0 h : xHp} {rc : Nat} {fc : Int32} {nt nk : Nat} {lf : Nat → Int32} {ra : Nat → Nat} {V : Nat → RV} {md : Nat} {cs : Bool} {σ : JS} {rn : Nat → Int32} (x : jgH h0 h rc fc nt nk lf ra V md cs σ rn) : bkS h rc fc nt nk lf ra V := x.1
theorem jgH.G {h0 h : xHp} {rc : Nat} {fc : Int32} {nt nk : Nat} {lf : Nat → Int32} {ra : Nat → Nat} {V : Nat → RV} {md : Nat} {cs : Bool} {σ : JS} {rn : Nat → Int32} (x : jgH h0 h rc fc nt nk lf ra V md cs σ rn) : h.1 190 = some (.inr (3, [.ref 3, .ref 187, .ref 191])) := x.2.1
theorem jgH.N {h0 h : xHp} {rc : Nat} {fc : Int32} {nt nk : Nat} {lf : Nat → Int32} {ra : Nat → Nat} {V : Nat → RV} {md : Nat} {cs : Bool} {σ : JS} {rn : Nat → Int32} (x : jgH h0 h rc fc nt nk lf ra V md cs σ rn) : h.1 191 = some (.inl (0, 20, .inl rn)) := x.2.2.1
theorem jgH.J {h0 h : xHp} {rc : Nat} {fc : Int32} {nt nk : Nat} {lf : Nat → Int32} {ra : Nat → Nat} {V : Nat → RV} {md : Nat} {cs : Bool} {σ : JS} {rn : Nat → Int32} (x : jgH h0 h rc fc nt nk lf ra V md cs σ rn) : jnI h := x.2.2.2.1
theorem jgH.M {h0 h : xHp} {rc : Nat} {fc : Int32} {nt nk : Nat} {lf : Nat → Int32} {ra : Nat → Nat} {V : Nat → RV} {md : Nat} {cs : Bool} {σ : JS} {rn : Nat → Int32} (x : jgH h0 h rc fc nt nk lf ra V md cs σ rn) : mdAt h md (md + 1) (md + 2) (md + 3) cs σ.1 σ.2.1 σ.2.2.1 σ.2.2.2.1 := x.2.2.2.2.1
theorem jgH.X {h0 h : xHp} {rc : Nat} {fc : Int32} {nt nk : Nat} {lf : Nat → Int32} {ra : Nat → Nat} {V : Nat → RV} {md : Nat} {cs : Bool} {σ : JS} {rn : Nat → Int32} (x : jgH h0 h rc fc nt nk lf ra V md cs σ rn) : xfr h0 h (191 :: jL md) := x.2.2.2.2.2
theorem jl_ge {md : Nat} (hm : okMd md) : ∀ q ∈ 191 :: jL md, 187 ≤ q := by
  intro q hq
  unfold okMd at hm
  simp only [jL, List.mem_cons, List.not_mem_nil, or_false] at hq
  omega
theorem jgH.next {h0 h h2 h9 : xHp} {rc nt nk md rl aim : Nat} {fc wt : Int32} {lf rn rn' : Nat → Int32} {ra : Nat → Nat} {V : Nat → RV} {cs : Bool} {σ ρ : JS} {θ : Nat → Option Nat} (hH : jgH h0 h rc fc nt nk lf ra V md cs σ rn) (hm : okMd md) (f2 : xfr (xup h 191 (.inl (0, 20, .inl rn'))) h2 [187, 188]) (hJ : jnAt h9 md rl cs aim wt θ ρ) (hl : ∃ lθ, ρ.2.2.2.2.2.2 = bfP lθ) (f9 : xfr h2 h9 (jL md)) : jgH h0 h9 rc fc nt nk lf ra V md cs ρ rn' := by
  have hx : xfr h (xup h 191 (.inl (0, 20, .inl rn'))) (191 :: jL md) := (xfr_rf _ _).up (by simp)
  have hy : xfr (xup h 191 (.inl (0, 20, .inl rn'))) h9 (jL md) := (f2.wd (fun q hq => by simp only [jL, List.mem_cons, List.not_mem_nil, or_false] at hq ⊢; omega)).tr f9
  have hz := hx.tr (hy.wd (fun q hq => List.mem_cons_of_mem _ hq))
  have n190 : 190 ∉ 191 :: jL md := by unfold okMd at hm; simp only [jL, List.mem_cons, List.not_mem_nil, or_false]; omega
  have n191 : 191 ∉ jL md := by unfold okMd at hm; simp only [jL, List.mem_cons, List.not_mem_nil, or_false]; omega
  exact ⟨hH.B.kept hz (jl_ge hm), hz.at hH.G n190, hy.at (xup_self _ _ _) n191, hJ.idle hl, hJ.2.2.2, hH.X.tr hz⟩
theorem not_due {V : Nat → RV} {rc nt l r : Nat} {U : Nat → Bool} {L : Nat → Nat} {cs : Bool} {σ : JS} {rn : Nat → Int32} {b : Bool} (hsn : ∀ r', r' < rc → snap V nt cs U L l σ (rn r') r') (hr : r < rc) (hb : b = false) (h : b = true ↔ dueP (V r) (rn r) σ.2.2.1) : clsd V nt cs r σ := by
  have hno : ¬ dueP (V r) (rn r) σ.2.2.1 := fun q => by rw [h.mpr q] at hb; cases hb
  rcases hsn r hr with q | ⟨-, -, -, q⟩
  · exact absurd (Or.inl q) hno
  · exact q (fun j hj t0 z => hno (Or.inr ⟨j, hj, t0, z⟩))
set_option maxRecDepth 100000 in
set_option maxHeartbeats 4000000 in
theorem l_X3_settle {G : xG} {h0 : xHp} {F : Nat → Bool} {V : Nat → RV} {rc : Nat} {U : Nat → Bool} {nt : Nat} {L : Nat → Nat} {s : Nat → Option Nat} {cs : Bool} {nk md : Nat} {fc wo kb gl : Int32} {lf : Nat → Int32} {ra : Nat → Nat} (hs : IsSt F V rc U nt s) (hVa : ∀ r, r < rc → okRl nt (V r)) (hn : nt ≤ 10) (hS : Sat V rc L) (hL : ∀ k, k < 10 → lf k = nI (L k)) (hL9 : ∀ k, L k ≤ 9) (hrc : rc ≤ 20) (hm : okMd md) (hU : ∀ r, r < rc → (U r = true ↔ ¬ nI r = wo ∧ ¬ ((kb >>> (nI (rvH (V r)) &&& 31)) &&& 1) = 0)) (hgl : gl = -1 ∨ ∃ n, n < 1000 ∧ gl = nI n) {l lc t : Nat} (hl : l < 100) (hcont : (∀ (σ : JS) (rn : Nat → Int32) (b : Bool) (h : xHp), jgH h0 h rc fc nt nk lf ra V md cs σ rn → bsI F L s cs l σ → (∀ r', r' < rc → snap V nt cs U L l σ (rn r') r') → rdI V rc U nt L s cs l t rc b σ → Wx G mX3_settle (xRm 14 0 0) (xF G (jg_Q s cs gl md h0) 0 0) 0 0 201 [(0, .ref 190), (1, .ref md), (2, .int wo), (3, .int kb), (4, .int gl), (5, .int (nI lc)), (6, .int (nI l)), (7, .int (bi b)), (8, .int (nI t)), (9, .int (nI rc))] [] h)) : ∀ (k r : Nat) (σ : JS) (rn : Nat → Int32) (b : Bool) (h : xHp), r ≤ rc → rc + 1 ≤ r + k → jgH h0 h rc fc nt nk lf ra V md cs σ rn → bsI F L s cs l σ → (∀ r', r' < rc → snap V nt cs U L l σ (rn r') r') → rdI V rc U nt L s cs l t r b σ → Wx G mX3_settle (xRm 14 0 0) (xF G (jg_Q s cs gl md h0) 0 0) 0 0 52 [(0, .ref 190), (1, .ref md), (2, .int wo), (3, .int kb), (4, .int gl), (5, .int (nI lc)), (6, .int (nI l)), (7, .int (bi b)), (8, .int (nI t)), (9, .int (nI r))] [] h := by
  intro k
  induction k with
  | zero => exact fun r σ rn b h h1 h2 => absurd h2 (by omega)
  | succ k ih =>
    intro r σ rn b h hk hk9 hH hb hsn hrd
    obtain ⟨⟨rf, hrs1, hrf⟩, hrl⟩ := hH.B.2.2.2.2.2.1
    obtain ⟨m0, r0, aim0, rd0, wt0, en0, θ0, lθ, e1, e2, e3⟩ := hH.J
    refine x_iload dX3_settle_52 rfl ?_
    refine x_aload_n dX3_settle_54 rfl ?_
    refine x_get lf_X3_15 dX3_settle_55 hH.G rfl ?_
    refine x_get lf_X3_35 dX3_settle_58 hH.B.1 rfl ?_
    refine x_icmp_ge 201 dX3_settle_61 (by decide) (fun c_61 => ?_) (fun c_61 => ?_)
    · rw [nI_leI (by omega) (by omega)] at c_61
      have hre : r = rc := by omega
      subst hre
      exact hcont σ rn b h hH hb hsn hrd
    · rw [nI_leI (by omega) (by omega)] at c_61
      refine x_iload dX3_settle_64 rfl ?_
      refine x_iconst (v := (-1)) dX3_settle_66 (by decide) ?_
      refine x_icmp_eq 80 dX3_settle_67 (by decide) (fun c_67 => ?_) (fun c_67 => ?_)
      · refine x_aload_n dX3_settle_80 rfl ?_
        refine x_get lf_X3_15 dX3_settle_81 hH.G rfl ?_
        refine x_get lf_X3_45 dX3_settle_84 hH.B.1 rfl ?_
        refine x_iload dX3_settle_87 rfl ?_
        refine x_aaldN (b := ra r) (j := r) hrs1 rfl rfl (by omega) (by decide) (hrf r (by omega)) dX3_settle_89 ?_
        refine x_get lf_X3_49 dX3_settle_90 (hrl r (by omega)).1 rfl ?_
        obtain ⟨hh1, hh2⟩ := (hVa r (by omega)).2.2.1
        have hh2 : rvH (V r) < 10 := hh2
        have hh3 := hL9 (rvH (V r))
        refine x_get lf_X3_55 dX3_settle_93 (hrl r (by omega)).2.1 rfl ?_
        refine x_top (y := nI (rvH (V r))) hh1 ?_
        refine x_istore [(0, .ref 190), (1, .ref md), (2, .int wo), (3, .int kb), (4, .int gl), (5, .int (nI lc)), (6, .int (nI l)), (7, .int (bi b)), (8, .int (nI t)), (9, .int (nI r)), (10, .int (nI (rvH (V r))))] dX3_settle_96 (by decide) rfl rfl ?_
        refine x_iload dX3_settle_98 rfl ?_
        refine x_iload_n dX3_settle_100 rfl ?_
        refine x_icmp_eq 117 dX3_settle_101 (by decide) (fun c_101 => ?_) (fun c_101 => ?_)
        · refine x_iconst (v := 0) dX3_settle_117 (by decide) ?_
          refine x_istore [(0, .ref 190), (1, .ref md), (2, .int wo), (3, .int kb), (4, .int gl), (5, .int (nI lc)), (6, .int (nI l)), (7, .int (bi b)), (8, .int (nI t)), (9, .int (nI r)), (10, .int (nI (rvH (V r)))), (11, .int 0)] dX3_settle_118 (by decide) rfl rfl ?_
          refine x_iload dX3_settle_120 rfl ?_
          refine x_if_eq 195 dX3_settle_122 (by decide) (fun _ => ?_) (fun c => absurd c (by decide))
          refine x_iinc (v := nI (r + 1)) [(0, .ref 190), (1, .ref md), (2, .int wo), (3, .int kb), (4, .int gl), (5, .int (nI lc)), (6, .int (nI l)), (7, .int (bi b)), (8, .int (nI t)), (9, .int (nI (r + 1))), (10, .int (nI (rvH (V r)))), (11, .int 0)] dX3_settle_195 rfl (nI_add r 1) (by decide) rfl rfl ?_
          refine x_goto 52 dX3_settle_198 (by decide) ?_
          refine x_ls _ [0, 1, 2, 3, 4, 5, 6, 7, 8, 9] rfl (ih (r + 1) σ rn b h (by omega) (by omega) hH hb hsn ?_)
          first | exact rd_skip hVa hn hrd (fun q => ((hU r (by omega)).mp q.1).1 c_101) | exact rd_skip hVa hn hrd (fun q => ((hU r (by omega)).mp q.1).2 c_110) | exact rd_skip hVa hn hrd (fun q => c_140 q.2) | exact rd_not hs hVa hn hS (by omega) c_140 hb hrd (not_due hsn (by omega) c_150 hb9)
        · refine x_iload_n dX3_settle_104 rfl ?_
          refine x_iload dX3_settle_105 rfl ?_
          refine x_ishr dX3_settle_107 ?_
          refine x_iconst (v := 1) dX3_settle_108 (by decide) ?_
          refine x_iand dX3_settle_109 ?_
          refine x_if_eq 117 dX3_settle_110 (by decide) (fun c_110 => ?_) (fun c_110 => ?_)
          · refine x_iconst (v := 0) dX3_settle_117 (by decide) ?_
            refine x_istore [(0, .ref 190), (1, .ref md), (2, .int wo), (3, .int kb), (4, .int gl), (5, .int (nI lc)), (6, .int (nI l)), (7, .int (bi b)), (8, .int (nI t)), (9, .int (nI r)), (10, .int (nI (rvH (V r)))), (11, .int 0)] dX3_settle_118 (by decide) rfl rfl ?_
            refine x_iload dX3_settle_120 rfl ?_
            refine x_if_eq 195 dX3_settle_122 (by decide) (fun _ => ?_) (fun c => absurd c (by decide))
            refine x_iinc (v := nI (r + 1)) [(0, .ref 190), (1, .ref md), (2, .int wo), (3, .int kb), (4, .int gl), (5, .int (nI lc)), (6, .int (nI l)), (7, .int (bi b)), (8, .int (nI t)), (9, .int (nI (r + 1))), (10, .int (nI (rvH (V r)))), (11, .int 0)] dX3_settle_195 rfl (nI_add r 1) (by decide) rfl rfl ?_
            refine x_goto 52 dX3_settle_198 (by decide) ?_
            refine x_ls _ [0, 1, 2, 3, 4, 5, 6, 7, 8, 9] rfl (ih (r + 1) σ rn b h (by omega) (by omega) hH hb hsn ?_)
            first | exact rd_skip hVa hn hrd (fun q => ((hU r (by omega)).mp q.1).1 c_101) | exact rd_skip hVa hn hrd (fun q => ((hU r (by omega)).mp q.1).2 c_110) | exact rd_skip hVa hn hrd (fun q => c_140 q.2) | exact rd_not hs hVa hn hS (by omega) c_140 hb hrd (not_due hsn (by omega) c_150 hb9)
          · refine x_iconst (v := 1) dX3_settle_113 (by decide) ?_
            refine x_goto 118 dX3_settle_114 (by decide) ?_
            refine x_istore [(0, .ref 190), (1, .ref md), (2, .int wo), (3, .int kb), (4, .int gl), (5, .int (nI lc)), (6, .int (nI l)), (7, .int (bi b)), (8, .int (nI t)), (9, .int (nI r)), (10, .int (nI (rvH (V r)))), (11, .int 1)] dX3_settle_118 (by decide) rfl rfl ?_
            refine x_iload dX3_settle_120 rfl ?_
            refine x_if_eq 195 dX3_settle_122 (by decide) (fun c => absurd c (by decide)) (fun _ => ?_)
            refine x_aload_n dX3_settle_125 rfl ?_
            refine x_get lf_X3_15 dX3_settle_126 hH.G rfl ?_
            refine x_get lf_X3_60 dX3_settle_129 hH.B.1 rfl ?_
            refine x_get lf_X3_64 dX3_settle_132 hH.B.2.2.2.1 rfl ?_
            refine x_iload dX3_settle_135 rfl ?_
            refine x_ialdN (j := rvH (V r)) hH.B.2.2.2.2.1 rfl (by omega) (by decide) dX3_settle_137 ?_
            refine x_top (y := nI (L (rvH (V r)))) (hL _ hh2) ?_
            refine x_iload dX3_settle_138 rfl ?_
            refine x_icmp_ne 195 dX3_settle_140 (by decide) (fun c_140 => ?_) (fun c_140 => ?_)
            · rw [nI_eq (by omega) (by omega)] at c_140
              refine x_iinc (v := nI (r + 1)) [(0, .ref 190), (1, .ref md), (2, .int wo), (3, .int kb), (4, .int gl), (5, .int (nI lc)), (6, .int (nI l)), (7, .int (bi b)), (8, .int (nI t)), (9, .int (nI (r + 1))), (10, .int (nI (rvH (V r)))), (11, .int 1)] dX3_settle_195 rfl (nI_add r 1) (by decide) rfl rfl ?_
              refine x_goto 52 dX3_settle_198 (by decide) ?_
              refine x_ls _ [0, 1, 2, 3, 4, 5, 6, 7, 8, 9] rfl (ih (r + 1) σ rn b h (by omega) (by omega) hH hb hsn ?_)
              first | exact rd_skip hVa hn hrd (fun q => ((hU r (by omega)).mp q.1).1 c_101) | exact rd_skip hVa hn hrd (fun q => ((hU r (by omega)).mp q.1).2 c_110) | exact rd_skip hVa hn hrd (fun q => c_140 q.2) | exact rd_not hs hVa hn hS (by omega) c_140 hb hrd (not_due hsn (by omega) c_150 hb9)
            · rw [nI_eq (by omega) (by omega)] at c_140
              refine x_aload_n dX3_settle_143 rfl ?_
              refine x_iload dX3_settle_144 rfl ?_
              refine x_aload_n dX3_settle_146 rfl ?_
              refine x_callV (As := [.int (nI r), .ref md]) (st := []) lv_X3_69 (k_X3_isDue hH.B hH.G hH.N hH.M (hVa r (by omega)) (by omega)) dX3_settle_147 hH.G rfl rfl (Nat.le_of_ble_eq_true rfl) ⟨by decide, by decide⟩ ⟨by decide, by decide⟩ (fun v h1 q => ?_) (fun _ _ _ _ _ q => by obtain ⟨_, q, _⟩ := q; cases q)
              obtain ⟨b9, ev, eh, hb9⟩ := q
              rw [eh]
              cases ev
              refine x_if_eq 195 dX3_settle_150 (by decide) (fun c_150 => ?_) (fun c_150 => ?_)
              · have c_150 := bi_f c_150
                refine x_iinc (v := nI (r + 1)) [(0, .ref 190), (1, .ref md), (2, .int wo), (3, .int kb), (4, .int gl), (5, .int (nI lc)), (6, .int (nI l)), (7, .int (bi b)), (8, .int (nI t)), (9, .int (nI (r + 1))), (10, .int (nI (rvH (V r)))), (11, .int 1)] dX3_settle_195 rfl (nI_add r 1) (by decide) rfl rfl ?_
                refine x_goto 52 dX3_settle_198 (by decide) ?_
                refine x_ls _ [0, 1, 2, 3, 4, 5, 6, 7, 8, 9] rfl (ih (r + 1) σ rn b h (by omega) (by omega) hH hb hsn ?_)
                first | exact rd_skip hVa hn hrd (fun q => ((hU r (by omega)).mp q.1).1 c_101) | exact rd_skip hVa hn hrd (fun q => ((hU r (by omega)).mp q.1).2 c_110) | exact rd_skip hVa hn hrd (fun q => c_140 q.2) | exact rd_not hs hVa hn hS (by omega) c_140 hb hrd (not_due hsn (by omega) c_150 hb9)
              · have c_150 := bi_t c_150
                refine x_aload_n dX3_settle_153 rfl ?_
                refine x_get lf_X3_9 dX3_settle_154 hH.G rfl ?_
                refine x_iload dX3_settle_157 rfl ?_
                refine x_aload_n dX3_settle_159 rfl ?_
                refine x_get lf_X3_73 dX3_settle_160 hH.M.1 rfl ?_
                refine x_iastN (j := r) hH.N rfl (by omega) (by decide) dX3_settle_163 ?_
                refine x_aload_n dX3_settle_164 rfl ?_
                refine x_get lf_X3_19 dX3_settle_165 ((xup_ne (by decide)).trans hH.G) rfl ?_
                refine x_aload_n dX3_settle_168 rfl ?_
                refine x_aload_n dX3_settle_169 rfl ?_
                refine x_get lf_X3_15 dX3_settle_170 ((xup_ne (by decide)).trans hH.G) rfl ?_
                refine x_get lf_X3_45 dX3_settle_173 ((xup_ne (by decide)).trans hH.B.1) rfl ?_
                refine x_iload dX3_settle_176 rfl ?_
                refine x_aaldN (b := ra r) (j := r) ((xup_ne (by decide)).trans hrs1) rfl rfl (by omega) (by decide) (hrf r (by omega)) dX3_settle_178 ?_
                refine x_iconst (v := 0) dX3_settle_179 (by decide) ?_
                have hM1 : mdAt (xup h 191 (.inl (0, 20, .inl (upd rn r σ.2.2.2.1)))) md (md + 1) (md + 2) (md + 3) cs σ.1 σ.2.1 σ.2.2.1 σ.2.2.2.1 := ⟨(xup_ne (by unfold okMd at hm; omega)).trans hH.M.1, (xup_ne (by unfold okMd at hm; omega)).trans hH.M.2.1, (xup_ne (by unfold okMd at hm; omega)).trans hH.M.2.2.1, (xup_ne (by unfold okMd at hm; omega)).trans hH.M.2.2.2⟩
                refine x_callV (As := [.ref md, .ref (ra r), .int (nI 0)]) (st := []) lv_X3_78 (k_X2_begin (aim := 0) ((xup_ne (by decide)).trans e1) ((xup_ne (by decide)).trans e2) ((xup_ne (by decide)).trans e3) hM1 hm) dX3_settle_180 ((xup_ne (by decide)).trans e1) rfl rfl (Nat.le_of_ble_eq_true rfl) ⟨by decide, by decide⟩ ⟨by decide, by decide⟩ (fun v9 h2 q => ?_) (fun _ _ _ _ _ q => by cases q.1)
                obtain ⟨ev, hJ1, hf1⟩ := q
                cases ev
                have hz : xfr h h2 (191 :: jL md) := ((xfr_rf h (191 :: jL md)).up (a := 191) (by simp)).tr (hf1.wd (fun q hq => by simp only [jL, List.mem_cons, List.not_mem_nil, or_false] at hq ⊢; omega))
                have hB2 := hH.B.kept hz (jl_ge hm)
                have hG2 := hz.at hH.G (by unfold okMd at hm; simp only [jL, List.mem_cons, List.not_mem_nil, or_false]; omega)
                refine x_aload_n dX3_settle_183 rfl ?_
                refine x_get lf_X3_19 dX3_settle_184 hG2 rfl ?_
                refine x_iconst (v := 0) dX3_settle_187 (by decide) ?_
                refine x_iconst (v := 0) dX3_settle_188 (by decide) ?_
                have hv4 := (hVa r (by omega)).1
                refine x_callV (As := [.int (nI 0), .int 0]) (st := []) lv_X3_82 (k_X2_walk hm (hB2.2.2.2.2.2.2 r (by omega)) (hVa r (by omega)) hn (show 0 < 3 by decide) (V r).2.2.1 0 0 (clT θ0) (σ.1, σ.2.1, σ.2.2.1, σ.2.2.2.1, 0, false, bfP lθ) _ (by omega) hJ1 (hB2.jn (by omega)) (okTh_cl nt θ0) hb.1.1 (fun j hj => absurd hj (by omega))) dX3_settle_189 hJ1.1 rfl rfl (Nat.le_of_ble_eq_true rfl) ⟨by show 2 * (V r).2.2.1 + 4 + 1 ≤ 14; omega, by show 8 + (9 + 11) + 100 * (2 * (V r).2.2.1 + 4) ≤ 100 * 14; omega⟩ ⟨Nat.le_refl _, Nat.le_refl _⟩ (fun v9 h9 q => ?_) (fun _ _ _ _ _ q => by cases q.1)
                obtain ⟨ev, hJ9, hw9, hf9⟩ := q
                cases ev
                refine x_iconst (v := 1) dX3_settle_192 (by decide) ?_
                refine x_istore [(0, .ref 190), (1, .ref md), (2, .int wo), (3, .int kb), (4, .int gl), (5, .int (nI lc)), (6, .int (nI l)), (7, .int 1), (8, .int (nI t)), (9, .int (nI r)), (10, .int (nI (rvH (V r)))), (11, .int 1)] dX3_settle_193 (by decide) rfl rfl ?_
                refine x_iinc (v := nI (r + 1)) [(0, .ref 190), (1, .ref md), (2, .int wo), (3, .int kb), (4, .int gl), (5, .int (nI lc)), (6, .int (nI l)), (7, .int 1), (8, .int (nI t)), (9, .int (nI (r + 1))), (10, .int (nI (rvH (V r)))), (11, .int 1)] dX3_settle_195 rfl (nI_add r 1) (by decide) rfl rfl ?_
                refine x_goto 52 dX3_settle_198 (by decide) ?_
                have hb1 : bsI F L s cs l (σ.1, σ.2.1, σ.2.2.1, σ.2.2.2.1, 0, false, bfP lθ) := ⟨⟨hb.1.1, rfl, hb.1.2.2⟩, hb.2⟩
                have hU9 : U r = true := (hU r (by omega)).mpr ⟨c_101, c_110⟩
                obtain ⟨g1, g2, g3, g4⟩ := fire_inv (want := wt0) (θ := clT θ0) hs hVa hn hS (show r < rc by omega) hU9 c_140 hb1 (fun s hs => by unfold clT; rw [if_pos hs])
                refine x_ls _ [0, 1, 2, 3, 4, 5, 6, 7, 8, 9] rfl (ih (r + 1) _ (upd rn r σ.2.2.2.1) true h9 (by omega) (by omega) (hH.next hm hf1 hJ9 (wkP_least _ _ _ _ _ ⟨lθ, rfl⟩) hf9) g1 (fun r' hr' => ?_) (rd_fire hs hVa hn hS (by omega) c_140 hb1 g1 g3 hrd g4))
                by_cases z : r' = r
                · subst z; rw [upd, if_pos rfl]; exact snap_self (σ := (σ.1, σ.2.1, σ.2.2.1, σ.2.2.2.1, 0, false, bfP lθ)) hVa hn hS (by omega) c_140 hb1 g2 g3 g4
                · rw [upd, if_neg z]; exact snap_fire (σ := (σ.1, σ.2.1, σ.2.2.1, σ.2.2.2.1, 0, false, bfP lθ)) hVa hn hS hr' c_140 g2 g3 (hsn r' hr')
      · obtain ⟨n9, hn9, rfl⟩ := hgl.resolve_left c_67
        refine x_aload_n dX3_settle_70 rfl ?_
        refine x_iload dX3_settle_71 rfl ?_
        refine x_callV (As := [.int (nI n9)]) (st := []) lv_X3_39 (k_X5_has hH.M.1 hH.M.2.1 hb.1.1 hn9) dX3_settle_73 hH.M.1 rfl rfl (Nat.le_of_ble_eq_true rfl) ⟨by decide, by decide⟩ ⟨by decide, by decide⟩ (fun v h1 q => ?_) (fun _ _ _ _ _ q => by cases q.1)
        obtain ⟨ev, eh⟩ := q
        rw [eh]
        cases ev
        refine x_if_eq 80 dX3_settle_76 (by decide) (fun c_76 => ?_) (fun c_76 => ?_)
        · have c_76 := bi_f c_76
          refine x_aload_n dX3_settle_80 rfl ?_
          refine x_get lf_X3_15 dX3_settle_81 hH.G rfl ?_
          refine x_get lf_X3_45 dX3_settle_84 hH.B.1 rfl ?_
          refine x_iload dX3_settle_87 rfl ?_
          refine x_aaldN (b := ra r) (j := r) hrs1 rfl rfl (by omega) (by decide) (hrf r (by omega)) dX3_settle_89 ?_
          refine x_get lf_X3_49 dX3_settle_90 (hrl r (by omega)).1 rfl ?_
          obtain ⟨hh1, hh2⟩ := (hVa r (by omega)).2.2.1
          have hh2 : rvH (V r) < 10 := hh2
          have hh3 := hL9 (rvH (V r))
          refine x_get lf_X3_55 dX3_settle_93 (hrl r (by omega)).2.1 rfl ?_
          refine x_top (y := nI (rvH (V r))) hh1 ?_
          refine x_istore [(0, .ref 190), (1, .ref md), (2, .int wo), (3, .int kb), (4, .int (nI n9)), (5, .int (nI lc)), (6, .int (nI l)), (7, .int (bi b)), (8, .int (nI t)), (9, .int (nI r)), (10, .int (nI (rvH (V r))))] dX3_settle_96 (by decide) rfl rfl ?_
          refine x_iload dX3_settle_98 rfl ?_
          refine x_iload_n dX3_settle_100 rfl ?_
          refine x_icmp_eq 117 dX3_settle_101 (by decide) (fun c_101 => ?_) (fun c_101 => ?_)
          · refine x_iconst (v := 0) dX3_settle_117 (by decide) ?_
            refine x_istore [(0, .ref 190), (1, .ref md), (2, .int wo), (3, .int kb), (4, .int (nI n9)), (5, .int (nI lc)), (6, .int (nI l)), (7, .int (bi b)), (8, .int (nI t)), (9, .int (nI r)), (10, .int (nI (rvH (V r)))), (11, .int 0)] dX3_settle_118 (by decide) rfl rfl ?_
            refine x_iload dX3_settle_120 rfl ?_
            refine x_if_eq 195 dX3_settle_122 (by decide) (fun _ => ?_) (fun c => absurd c (by decide))
            refine x_iinc (v := nI (r + 1)) [(0, .ref 190), (1, .ref md), (2, .int wo), (3, .int kb), (4, .int (nI n9)), (5, .int (nI lc)), (6, .int (nI l)), (7, .int (bi b)), (8, .int (nI t)), (9, .int (nI (r + 1))), (10, .int (nI (rvH (V r)))), (11, .int 0)] dX3_settle_195 rfl (nI_add r 1) (by decide) rfl rfl ?_
            refine x_goto 52 dX3_settle_198 (by decide) ?_
            refine x_ls _ [0, 1, 2, 3, 4, 5, 6, 7, 8, 9] rfl (ih (r + 1) σ rn b h (by omega) (by omega) hH hb hsn ?_)
            first | exact rd_skip hVa hn hrd (fun q => ((hU r (by omega)).mp q.1).1 c_101) | exact rd_skip hVa hn hrd (fun q => ((hU r (by omega)).mp q.1).2 c_110) | exact rd_skip hVa hn hrd (fun q => c_140 q.2) | exact rd_not hs hVa hn hS (by omega) c_140 hb hrd (not_due hsn (by omega) c_150 hb9)
          · refine x_iload_n dX3_settle_104 rfl ?_
            refine x_iload dX3_settle_105 rfl ?_
            refine x_ishr dX3_settle_107 ?_
            refine x_iconst (v := 1) dX3_settle_108 (by decide) ?_
            refine x_iand dX3_settle_109 ?_
            refine x_if_eq 117 dX3_settle_110 (by decide) (fun c_110 => ?_) (fun c_110 => ?_)
            · refine x_iconst (v := 0) dX3_settle_117 (by decide) ?_
              refine x_istore [(0, .ref 190), (1, .ref md), (2, .int wo), (3, .int kb), (4, .int (nI n9)), (5, .int (nI lc)), (6, .int (nI l)), (7, .int (bi b)), (8, .int (nI t)), (9, .int (nI r)), (10, .int (nI (rvH (V r)))), (11, .int 0)] dX3_settle_118 (by decide) rfl rfl ?_
              refine x_iload dX3_settle_120 rfl ?_
              refine x_if_eq 195 dX3_settle_122 (by decide) (fun _ => ?_) (fun c => absurd c (by decide))
              refine x_iinc (v := nI (r + 1)) [(0, .ref 190), (1, .ref md), (2, .int wo), (3, .int kb), (4, .int (nI n9)), (5, .int (nI lc)), (6, .int (nI l)), (7, .int (bi b)), (8, .int (nI t)), (9, .int (nI (r + 1))), (10, .int (nI (rvH (V r)))), (11, .int 0)] dX3_settle_195 rfl (nI_add r 1) (by decide) rfl rfl ?_
              refine x_goto 52 dX3_settle_198 (by decide) ?_
              refine x_ls _ [0, 1, 2, 3, 4, 5, 6, 7, 8, 9] rfl (ih (r + 1) σ rn b h (by omega) (by omega) hH hb hsn ?_)
              first | exact rd_skip hVa hn hrd (fun q => ((hU r (by omega)).mp q.1).1 c_101) | exact rd_skip hVa hn hrd (fun q => ((hU r (by omega)).mp q.1).2 c_110) | exact rd_skip hVa hn hrd (fun q => c_140 q.2) | exact rd_not hs hVa hn hS (by omega) c_140 hb hrd (not_due hsn (by omega) c_150 hb9)
            · refine x_iconst (v := 1) dX3_settle_113 (by decide) ?_
              refine x_goto 118 dX3_settle_114 (by decide) ?_
              refine x_istore [(0, .ref 190), (1, .ref md), (2, .int wo), (3, .int kb), (4, .int (nI n9)), (5, .int (nI lc)), (6, .int (nI l)), (7, .int (bi b)), (8, .int (nI t)), (9, .int (nI r)), (10, .int (nI (rvH (V r)))), (11, .int 1)] dX3_settle_118 (by decide) rfl rfl ?_
              refine x_iload dX3_settle_120 rfl ?_
              refine x_if_eq 195 dX3_settle_122 (by decide) (fun c => absurd c (by decide)) (fun _ => ?_)
              refine x_aload_n dX3_settle_125 rfl ?_
              refine x_get lf_X3_15 dX3_settle_126 hH.G rfl ?_
              refine x_get lf_X3_60 dX3_settle_129 hH.B.1 rfl ?_
              refine x_get lf_X3_64 dX3_settle_132 hH.B.2.2.2.1 rfl ?_
              refine x_iload dX3_settle_135 rfl ?_
              refine x_ialdN (j := rvH (V r)) hH.B.2.2.2.2.1 rfl (by omega) (by decide) dX3_settle_137 ?_
              refine x_top (y := nI (L (rvH (V r)))) (hL _ hh2) ?_
              refine x_iload dX3_settle_138 rfl ?_
              refine x_icmp_ne 195 dX3_settle_140 (by decide) (fun c_140 => ?_) (fun c_140 => ?_)
              · rw [nI_eq (by omega) (by omega)] at c_140
                refine x_iinc (v := nI (r + 1)) [(0, .ref 190), (1, .ref md), (2, .int wo), (3, .int kb), (4, .int (nI n9)), (5, .int (nI lc)), (6, .int (nI l)), (7, .int (bi b)), (8, .int (nI t)), (9, .int (nI (r + 1))), (10, .int (nI (rvH (V r)))), (11, .int 1)] dX3_settle_195 rfl (nI_add r 1) (by decide) rfl rfl ?_
                refine x_goto 52 dX3_settle_198 (by decide) ?_
                refine x_ls _ [0, 1, 2, 3, 4, 5, 6, 7, 8, 9] rfl (ih (r + 1) σ rn b h (by omega) (by omega) hH hb hsn ?_)
                first | exact rd_skip hVa hn hrd (fun q => ((hU r (by omega)).mp q.1).1 c_101) | exact rd_skip hVa hn hrd (fun q => ((hU r (by omega)).mp q.1).2 c_110) | exact rd_skip hVa hn hrd (fun q => c_140 q.2) | exact rd_not hs hVa hn hS (by omega) c_140 hb hrd (not_due hsn (by omega) c_150 hb9)
              · rw [nI_eq (by omega) (by omega)] at c_140
                refine x_aload_n dX3_settle_143 rfl ?_
                refine x_iload dX3_settle_144 rfl ?_
                refine x_aload_n dX3_settle_146 rfl ?_
                refine x_callV (As := [.int (nI r), .ref md]) (st := []) lv_X3_69 (k_X3_isDue hH.B hH.G hH.N hH.M (hVa r (by omega)) (by omega)) dX3_settle_147 hH.G rfl rfl (Nat.le_of_ble_eq_true rfl) ⟨by decide, by decide⟩ ⟨by decide, by decide⟩ (fun v h1 q => ?_) (fun _ _ _ _ _ q => by obtain ⟨_, q, _⟩ := q; cases q)
                obtain ⟨b9, ev, eh, hb9⟩ := q
                rw [eh]
                cases ev
                refine x_if_eq 195 dX3_settle_150 (by decide) (fun c_150 => ?_) (fun c_150 => ?_)
                · have c_150 := bi_f c_150
                  refine x_iinc (v := nI (r + 1)) [(0, .ref 190), (1, .ref md), (2, .int wo), (3, .int kb), (4, .int (nI n9)), (5, .int (nI lc)), (6, .int (nI l)), (7, .int (bi b)), (8, .int (nI t)), (9, .int (nI (r + 1))), (10, .int (nI (rvH (V r)))), (11, .int 1)] dX3_settle_195 rfl (nI_add r 1) (by decide) rfl rfl ?_
                  refine x_goto 52 dX3_settle_198 (by decide) ?_
                  refine x_ls _ [0, 1, 2, 3, 4, 5, 6, 7, 8, 9] rfl (ih (r + 1) σ rn b h (by omega) (by omega) hH hb hsn ?_)
                  first | exact rd_skip hVa hn hrd (fun q => ((hU r (by omega)).mp q.1).1 c_101) | exact rd_skip hVa hn hrd (fun q => ((hU r (by omega)).mp q.1).2 c_110) | exact rd_skip hVa hn hrd (fun q => c_140 q.2) | exact rd_not hs hVa hn hS (by omega) c_140 hb hrd (not_due hsn (by omega) c_150 hb9)
                · have c_150 := bi_t c_150
                  refine x_aload_n dX3_settle_153 rfl ?_
                  refine x_get lf_X3_9 dX3_settle_154 hH.G rfl ?_
                  refine x_iload dX3_settle_157 rfl ?_
                  refine x_aload_n dX3_settle_159 rfl ?_
                  refine x_get lf_X3_73 dX3_settle_160 hH.M.1 rfl ?_
                  refine x_iastN (j := r) hH.N rfl (by omega) (by decide) dX3_settle_163 ?_
                  refine x_aload_n dX3_settle_164 rfl ?_
                  refine x_get lf_X3_19 dX3_settle_165 ((xup_ne (by decide)).trans hH.G) rfl ?_
                  refine x_aload_n dX3_settle_168 rfl ?_
                  refine x_aload_n dX3_settle_169 rfl ?_
                  refine x_get lf_X3_15 dX3_settle_170 ((xup_ne (by decide)).trans hH.G) rfl ?_
                  refine x_get lf_X3_45 dX3_settle_173 ((xup_ne (by decide)).trans hH.B.1) rfl ?_
                  refine x_iload dX3_settle_176 rfl ?_
                  refine x_aaldN (b := ra r) (j := r) ((xup_ne (by decide)).trans hrs1) rfl rfl (by omega) (by decide) (hrf r (by omega)) dX3_settle_178 ?_
                  refine x_iconst (v := 0) dX3_settle_179 (by decide) ?_
                  have hM1 : mdAt (xup h 191 (.inl (0, 20, .inl (upd rn r σ.2.2.2.1)))) md (md + 1) (md + 2) (md + 3) cs σ.1 σ.2.1 σ.2.2.1 σ.2.2.2.1 := ⟨(xup_ne (by unfold okMd at hm; omega)).trans hH.M.1, (xup_ne (by unfold okMd at hm; omega)).trans hH.M.2.1, (xup_ne (by unfold okMd at hm; omega)).trans hH.M.2.2.1, (xup_ne (by unfold okMd at hm; omega)).trans hH.M.2.2.2⟩
                  refine x_callV (As := [.ref md, .ref (ra r), .int (nI 0)]) (st := []) lv_X3_78 (k_X2_begin (aim := 0) ((xup_ne (by decide)).trans e1) ((xup_ne (by decide)).trans e2) ((xup_ne (by decide)).trans e3) hM1 hm) dX3_settle_180 ((xup_ne (by decide)).trans e1) rfl rfl (Nat.le_of_ble_eq_true rfl) ⟨by decide, by decide⟩ ⟨by decide, by decide⟩ (fun v9 h2 q => ?_) (fun _ _ _ _ _ q => by cases q.1)
                  obtain ⟨ev, hJ1, hf1⟩ := q
                  cases ev
                  have hz : xfr h h2 (191 :: jL md) := ((xfr_rf h (191 :: jL md)).up (a := 191) (by simp)).tr (hf1.wd (fun q hq => by simp only [jL, List.mem_cons, List.not_mem_nil, or_false] at hq ⊢; omega))
                  have hB2 := hH.B.kept hz (jl_ge hm)
                  have hG2 := hz.at hH.G (by unfold okMd at hm; simp only [jL, List.mem_cons, List.not_mem_nil, or_false]; omega)
                  refine x_aload_n dX3_settle_183 rfl ?_
                  refine x_get lf_X3_19 dX3_settle_184 hG2 rfl ?_
                  refine x_iconst (v := 0) dX3_settle_187 (by decide) ?_
                  refine x_iconst (v := 0) dX3_settle_188 (by decide) ?_
                  have hv4 := (hVa r (by omega)).1
                  refine x_callV (As := [.int (nI 0), .int 0]) (st := []) lv_X3_82 (k_X2_walk hm (hB2.2.2.2.2.2.2 r (by omega)) (hVa r (by omega)) hn (show 0 < 3 by decide) (V r).2.2.1 0 0 (clT θ0) (σ.1, σ.2.1, σ.2.2.1, σ.2.2.2.1, 0, false, bfP lθ) _ (by omega) hJ1 (hB2.jn (by omega)) (okTh_cl nt θ0) hb.1.1 (fun j hj => absurd hj (by omega))) dX3_settle_189 hJ1.1 rfl rfl (Nat.le_of_ble_eq_true rfl) ⟨by show 2 * (V r).2.2.1 + 4 + 1 ≤ 14; omega, by show 8 + (9 + 11) + 100 * (2 * (V r).2.2.1 + 4) ≤ 100 * 14; omega⟩ ⟨Nat.le_refl _, Nat.le_refl _⟩ (fun v9 h9 q => ?_) (fun _ _ _ _ _ q => by cases q.1)
                  obtain ⟨ev, hJ9, hw9, hf9⟩ := q
                  cases ev
                  refine x_iconst (v := 1) dX3_settle_192 (by decide) ?_
                  refine x_istore [(0, .ref 190), (1, .ref md), (2, .int wo), (3, .int kb), (4, .int (nI n9)), (5, .int (nI lc)), (6, .int (nI l)), (7, .int 1), (8, .int (nI t)), (9, .int (nI r)), (10, .int (nI (rvH (V r)))), (11, .int 1)] dX3_settle_193 (by decide) rfl rfl ?_
                  refine x_iinc (v := nI (r + 1)) [(0, .ref 190), (1, .ref md), (2, .int wo), (3, .int kb), (4, .int (nI n9)), (5, .int (nI lc)), (6, .int (nI l)), (7, .int 1), (8, .int (nI t)), (9, .int (nI (r + 1))), (10, .int (nI (rvH (V r)))), (11, .int 1)] dX3_settle_195 rfl (nI_add r 1) (by decide) rfl rfl ?_
                  refine x_goto 52 dX3_settle_198 (by decide) ?_
                  have hb1 : bsI F L s cs l (σ.1, σ.2.1, σ.2.2.1, σ.2.2.2.1, 0, false, bfP lθ) := ⟨⟨hb.1.1, rfl, hb.1.2.2⟩, hb.2⟩
                  have hU9 : U r = true := (hU r (by omega)).mpr ⟨c_101, c_110⟩
                  obtain ⟨g1, g2, g3, g4⟩ := fire_inv (want := wt0) (θ := clT θ0) hs hVa hn hS (show r < rc by omega) hU9 c_140 hb1 (fun s hs => by unfold clT; rw [if_pos hs])
                  refine x_ls _ [0, 1, 2, 3, 4, 5, 6, 7, 8, 9] rfl (ih (r + 1) _ (upd rn r σ.2.2.2.1) true h9 (by omega) (by omega) (hH.next hm hf1 hJ9 (wkP_least _ _ _ _ _ ⟨lθ, rfl⟩) hf9) g1 (fun r' hr' => ?_) (rd_fire hs hVa hn hS (by omega) c_140 hb1 g1 g3 hrd g4))
                  by_cases z : r' = r
                  · subst z; rw [upd, if_pos rfl]; exact snap_self (σ := (σ.1, σ.2.1, σ.2.2.1, σ.2.2.2.1, 0, false, bfP lθ)) hVa hn hS (by omega) c_140 hb1 g2 g3 g4
                  · rw [upd, if_neg z]; exact snap_fire (σ := (σ.1, σ.2.1, σ.2.2.1, σ.2.2.2.1, 0, false, bfP lθ)) hVa hn hS hr' c_140 g2 g3 (hsn r' hr')
        · have c_76 := bi_t c_76
          exact x_vret dX3_settle_79 rfl (Nat.le_refl _) (Nat.le_refl _) ⟨rfl, σ, rn, hH.M, hH.J, hH.N, hH.X, hb.1.1, fun n q1 q2 => (by obtain ⟨d, d1, -⟩ := hb.2.1 n q1 q2; exact ⟨d, d1⟩), hb.2.2.2.2, Or.inr ⟨n9, hn9, rfl, c_76⟩⟩
set_option maxRecDepth 100000 in
set_option maxHeartbeats 4000000 in
theorem m_X3_settle {G : xG} {h0 : xHp} {F : Nat → Bool} {V : Nat → RV} {rc : Nat} {U : Nat → Bool} {nt : Nat} {L : Nat → Nat} {s : Nat → Option Nat} {cs : Bool} {nk md : Nat} {fc wo kb gl : Int32} {lf : Nat → Int32} {ra : Nat → Nat} (hs : IsSt F V rc U nt s) (hVa : ∀ r, r < rc → okRl nt (V r)) (hn : nt ≤ 10) (hS : Sat V rc L) (hL : ∀ k, k < 10 → lf k = nI (L k)) (hL9 : ∀ k, L k ≤ 9) (hrc : rc ≤ 20) (hm : okMd md) (hU : ∀ r, r < rc → (U r = true ↔ ¬ nI r = wo ∧ ¬ ((kb >>> (nI (rvH (V r)) &&& 31)) &&& 1) = 0)) (hgl : gl = -1 ∨ ∃ n, n < 1000 ∧ gl = nI n) {l lc : Nat} (hl : l < 100) (hcont2 : (∀ (σ : JS) (rn : Nat → Int32) (b : Bool) (t : Nat) (h : xHp), jgH h0 h rc fc nt nk lf ra V md cs σ rn → bsI F L s cs (l + 1) σ → (∀ r', r' < rc → snap V nt cs U L (l + 1) σ (rn r') r') → Wx G mX3_settle (xRm 14 0 0) (xF G (jg_Q s cs gl md h0) 0 0) 0 0 207 [(0, .ref 190), (1, .ref md), (2, .int wo), (3, .int kb), (4, .int gl), (5, .int (nI lc)), (6, .int (nI l)), (7, .int (bi b)), (8, .int (nI t))] [] h)) : ∀ (k t : Nat) (σ : JS) (rn : Nat → Int32) (b : Bool) (h : xHp), t ≤ 1002 → 1003 ≤ t + k → jgH h0 h rc fc nt nk lf ra V md cs σ rn → bsI F L s cs l σ → (∀ r', r' < rc → snap V nt cs U L l σ (rn r') r') → (∀ n d, n < 1000 → L (n / 100) = l → s n = some d → d ≤ t → fin1 cs s σ n d) → (b = false → (∀ n d, n < 1000 → L (n / 100) = l → s n = some d → fin1 cs s σ n d)) → Wx G mX3_settle (xRm 14 0 0) (xF G (jg_Q s cs gl md h0) 0 0) 0 0 33 [(0, .ref 190), (1, .ref md), (2, .int wo), (3, .int kb), (4, .int gl), (5, .int (nI lc)), (6, .int (nI l)), (7, .int (bi b)), (8, .int (nI t))] [] h := by
  intro k
  induction k with
  | zero => exact fun t σ rn b h h1 h2 => absurd h2 (by omega)
  | succ k ih =>
    intro t σ rn b h hk hk9 hH hb hsn hf hq
    refine x_iload dX3_settle_33 rfl ?_
    refine x_sipush (v := 1002) dX3_settle_35 (by decide) ?_
    refine x_icmp_ge 207 dX3_settle_38 (by decide) (fun c_38 => ?_) (fun c_38 => ?_)
    · rw [show (1002 : Int32) = nI 1002 from rfl, nI_leI (by omega) (by omega)] at c_38
      have hall : (∀ n d, n < 1000 → L (n / 100) = l → s n = some d → fin1 cs s σ n d) := by first | exact hq c_43 | exact fun n d q1 q2 q3 => hf n d q1 q2 q3 (by have := st_le hVa hn hs q1 q3; omega)
      exact hcont2 σ rn b t h hH (lay_up hb hall) (fun r q => snap_up (hsn r q))
    · rw [show (1002 : Int32) = nI 1002 from rfl, nI_leI (by omega) (by omega)] at c_38
      refine x_iload dX3_settle_41 rfl ?_
      refine x_if_eq 207 dX3_settle_43 (by decide) (fun c_43 => ?_) (fun c_43 => ?_)
      · have c_43 := bi_f c_43
        have hall : (∀ n d, n < 1000 → L (n / 100) = l → s n = some d → fin1 cs s σ n d) := by first | exact hq c_43 | exact fun n d q1 q2 q3 => hf n d q1 q2 q3 (by have := st_le hVa hn hs q1 q3; omega)
        exact hcont2 σ rn b t h hH (lay_up hb hall) (fun r q => snap_up (hsn r q))
      · have c_43 := bi_t c_43
        refine x_iconst (v := 0) dX3_settle_46 (by decide) ?_
        refine x_istore [(0, .ref 190), (1, .ref md), (2, .int wo), (3, .int kb), (4, .int gl), (5, .int (nI lc)), (6, .int (nI l)), (7, .int 0), (8, .int (nI t))] dX3_settle_47 (by decide) rfl rfl ?_
        refine x_iconst (v := 0) dX3_settle_49 (by decide) ?_
        refine x_istore [(0, .ref 190), (1, .ref md), (2, .int wo), (3, .int kb), (4, .int gl), (5, .int (nI lc)), (6, .int (nI l)), (7, .int 0), (8, .int (nI t)), (9, .int 0)] dX3_settle_50 (by decide) rfl rfl ?_
        refine l_X3_settle hs hVa hn hS hL hL9 hrc hm hU hgl hl (lc := lc) (t := t) (fun σ1 rn1 b1 h1 hH1 hb1 hsn1 hrd1 => ?_) (rc + 1) 0 σ rn false h (by omega) (by omega) hH hb hsn (rd_begin hf)
        refine x_iinc (v := nI (t + 1)) [(0, .ref 190), (1, .ref md), (2, .int wo), (3, .int kb), (4, .int gl), (5, .int (nI lc)), (6, .int (nI l)), (7, .int (bi b1)), (8, .int (nI (t + 1))), (9, .int (nI rc))] dX3_settle_201 rfl (nI_add t 1) (by decide) rfl rfl ?_
        refine x_goto 33 dX3_settle_204 (by decide) ?_
        refine x_ls _ [0, 1, 2, 3, 4, 5, 6, 7, 8] rfl (ih (t + 1) σ1 rn1 b1 h1 (by omega) (by omega) hH1 hb1 hsn1 (rd_end hs hb1 hrd1) (fun q => ?_))
        subst q
        exact lay_quiet hs hVa hn hS hb1 hrd1
set_option maxRecDepth 100000 in
set_option maxHeartbeats 4000000 in
theorem o_X3_settle {G : xG} {h0 : xHp} {F : Nat → Bool} {V : Nat → RV} {rc : Nat} {U : Nat → Bool} {nt : Nat} {L : Nat → Nat} {s : Nat → Option Nat} {cs : Bool} {nk md : Nat} {fc wo kb gl : Int32} {lf : Nat → Int32} {ra : Nat → Nat} (hs : IsSt F V rc U nt s) (hVa : ∀ r, r < rc → okRl nt (V r)) (hn : nt ≤ 10) (hS : Sat V rc L) (hL : ∀ k, k < 10 → lf k = nI (L k)) (hL9 : ∀ k, L k ≤ 9) (hrc : rc ≤ 20) (hm : okMd md) (hU : ∀ r, r < rc → (U r = true ↔ ¬ nI r = wo ∧ ¬ ((kb >>> (nI (rvH (V r)) &&& 31)) &&& 1) = 0)) (hgl : gl = -1 ∨ ∃ n, n < 1000 ∧ gl = nI n) {lc : Nat} (hlc : ∀ r, r < rc → L (rvH (V r)) < lc) (hlc9 : lc ≤ 10) : ∀ (k l : Nat) (σ : JS) (rn : Nat → Int32) (h : xHp), l ≤ lc → lc + 1 ≤ l + k → jgH h0 h rc fc nt nk lf ra V md cs σ rn → bsI F L s cs l σ → (∀ r', r' < rc → snap V nt cs U L l σ (rn r') r') → Wx G mX3_settle (xRm 14 0 0) (xF G (jg_Q s cs gl md h0) 0 0) 0 0 20 [(0, .ref 190), (1, .ref md), (2, .int wo), (3, .int kb), (4, .int gl), (5, .int (nI lc)), (6, .int (nI l))] [] h := by
  intro k
  induction k with
  | zero => exact fun l σ rn h h1 h2 => absurd h2 (by omega)
  | succ k ih =>
    intro l σ rn h hk hk9 hH hb hsn
    have hl9 : l < 100 := by omega
    refine x_iload dX3_settle_20 rfl ?_
    refine x_iload dX3_settle_22 rfl ?_
    refine x_icmp_ge 213 dX3_settle_24 (by decide) (fun c_24 => ?_) (fun c_24 => ?_)
    · rw [nI_leI (by omega) (by omega)] at c_24
      have hle : l = lc := by omega
      subst hle
      exact x_vret dX3_settle_213 rfl (Nat.le_refl _) (Nat.le_refl _) ⟨rfl, σ, rn, hH.M, hH.J, hH.N, hH.X, hb.1.1, fun n q1 q2 => (by obtain ⟨d, d1, -⟩ := hb.2.1 n q1 q2; exact ⟨d, d1⟩), hb.2.2.2.2, Or.inl (lay_all hs hVa hn hb hlc)⟩
    · rw [nI_leI (by omega) (by omega)] at c_24
      refine x_iconst (v := 1) dX3_settle_27 (by decide) ?_
      refine x_istore [(0, .ref 190), (1, .ref md), (2, .int wo), (3, .int kb), (4, .int gl), (5, .int (nI lc)), (6, .int (nI l)), (7, .int 1)] dX3_settle_28 (by decide) rfl rfl ?_
      refine x_iconst (v := 0) dX3_settle_30 (by decide) ?_
      refine x_istore [(0, .ref 190), (1, .ref md), (2, .int wo), (3, .int kb), (4, .int gl), (5, .int (nI lc)), (6, .int (nI l)), (7, .int 1), (8, .int 0)] dX3_settle_31 (by decide) rfl rfl ?_
      refine m_X3_settle hs hVa hn hS hL hL9 hrc hm hU hgl hl9 (lc := lc) (fun σ1 rn1 b1 t1 h1 hH1 hb1 hsn1 => ?_) 1003 0 σ rn true h (by omega) (by omega) hH hb hsn (fun n d q1 q2 q3 q4 => ?_) (fun q => by cases q)
      · refine x_iinc (v := nI (l + 1)) [(0, .ref 190), (1, .ref md), (2, .int wo), (3, .int kb), (4, .int gl), (5, .int (nI lc)), (6, .int (nI (l + 1))), (7, .int (bi b1)), (8, .int (nI t1))] dX3_settle_207 rfl (nI_add l 1) (by decide) rfl rfl ?_
        refine x_goto 20 dX3_settle_210 (by decide) ?_
        exact x_ls _ [0, 1, 2, 3, 4, 5, 6] rfl (ih (l + 1) σ1 rn1 h1 (by omega) (by omega) hH1 hb1 hsn1)
      · exact hb.2.2.1 n d q1 q3 (by rw [show d = 0 by omega] at q3; exact (hs.2.2 n 0 q1 q3).elim Or.inl (fun ⟨r, _, _, τ, _, _, _, z, _⟩ => absurd z (by omega)))
theorem jgH.fill {h : xHp} {rc nt nk md : Nat} {fc : Int32} {lf rn rn' : Nat → Int32} {ra : Nat → Nat} {V : Nat → RV} {cs : Bool} {σ : JS} (hH : jgH h h rc fc nt nk lf ra V md cs σ rn) (hm : okMd md) : jgH h (xup h 191 (.inl (0, 20, .inl rn'))) rc fc nt nk lf ra V md cs σ rn' := by
  have hx : xfr h (xup h 191 (.inl (0, 20, .inl rn'))) (191 :: jL md) := (xfr_rf _ _).up (by simp)
  obtain ⟨m0, r0, aim0, rd0, wt0, en0, θ0, lθ, e1, e2, e3⟩ := hH.J
  refine ⟨hH.B.kept hx (jl_ge hm), (xup_ne (by decide)).trans hH.G, xup_self _ _ _, ⟨m0, r0, aim0, rd0, wt0, en0, θ0, lθ, (xup_ne (by decide)).trans e1, (xup_ne (by decide)).trans e2, (xup_ne (by decide)).trans e3⟩, ?_, hx⟩
  exact ⟨(xup_ne (by unfold okMd at hm; omega)).trans hH.M.1, (xup_ne (by unfold okMd at hm; omega)).trans hH.M.2.1, (xup_ne (by unfold okMd at hm; omega)).trans hH.M.2.2.1, (xup_ne (by unfold okMd at hm; omega)).trans hH.M.2.2.2⟩
set_option maxRecDepth 100000 in
set_option maxHeartbeats 4000000 in
theorem k_X3_settle {G : xG} {h : xHp} {F : Nat → Bool} {V : Nat → RV} {rc : Nat} {U : Nat → Bool} {nt : Nat} {L : Nat → Nat} {s : Nat → Option Nat} {cs : Bool} {nk md : Nat} {fc wo kb gl : Int32} {lf : Nat → Int32} {ra : Nat → Nat} (hs : IsSt F V rc U nt s) (hVa : ∀ r, r < rc → okRl nt (V r)) (hn : nt ≤ 10) (hS : Sat V rc L) (hL : ∀ k, k < 10 → lf k = nI (L k)) (hL9 : ∀ k, L k ≤ 9) (hrc : rc ≤ 20) (hm : okMd md) (hU : ∀ r, r < rc → (U r = true ↔ ¬ nI r = wo ∧ ¬ ((kb >>> (nI (rvH (V r)) &&& 31)) &&& 1) = 0)) (hgl : gl = -1 ∨ ∃ n, n < 1000 ∧ gl = nI n) {σ : JS} {rn : Nat → Int32} (hnk : nk ≤ 10) (hhd : ∀ r, r < rc → rvH (V r) < nk) (hH : jgH h h rc fc nt nk lf ra V md cs σ rn) (hb : bsI F L s cs 0 σ) : MX G mX3_settle 14 0 0 [.ref 190, .ref md, .int wo, .int kb, .int gl] h (jg_Q s cs gl md h) := by
  refine MX.of [(0, .ref 190), (1, .ref md), (2, .int wo), (3, .int kb), (4, .int gl)] (by decide) rfl (Nat.le_of_ble_eq_true rfl) rfl ?_
  refine x_aload_n dX3_settle_0 rfl ?_
  refine x_get lf_X3_9 dX3_settle_1 hH.G rfl ?_
  refine x_iconst (v := (-1)) dX3_settle_4 (by decide) ?_
  refine x_callS (As := [.ref 191, .int (-1)]) (st := []) ls_X3_23 (k_fill hH.N (by decide)) dX3_settle_5 rfl rfl (Nat.le_of_ble_eq_true rfl) ⟨by decide, by decide⟩ ⟨by decide, by decide⟩ (fun v h1 q => ?_) (fun _ _ _ _ _ q => by cases q.1)
  obtain ⟨ev, rfl⟩ := q
  cases ev
  have hH1 : jgH h (xup h 191 (.inl (0, 20, .inl (fa_fill (fun _ => -1) rn 20)))) rc fc nt nk lf ra V md cs σ (fa_fill (fun _ => -1) rn 20) := hH.fill hm
  refine x_aload_n dX3_settle_8 rfl ?_
  refine x_get lf_X3_15 dX3_settle_9 hH1.G rfl ?_
  refine x_callV (As := []) (st := []) lv_X3_29 (k_X0_layerCount hH1.B.1 hH1.B.2.1 hH1.B.2.2.2.1 hH1.B.2.2.2.2.1 hL (fun k => by have := hL9 k; omega) hnk) dX3_settle_12 hH1.B.1 rfl rfl (Nat.le_of_ble_eq_true rfl) ⟨by decide, by decide⟩ ⟨by decide, by decide⟩ (fun v h1 q => ?_) (fun _ _ _ _ _ q => by cases q.1)
  obtain ⟨ev, eh⟩ := q
  rw [eh]
  cases ev
  refine x_istore [(0, .ref 190), (1, .ref md), (2, .int wo), (3, .int kb), (4, .int gl), (5, .int (nI (lcnt L nk)))] dX3_settle_15 (by decide) rfl rfl ?_
  refine x_iconst (v := 0) dX3_settle_17 (by decide) ?_
  refine x_istore [(0, .ref 190), (1, .ref md), (2, .int wo), (3, .int kb), (4, .int gl), (5, .int (nI (lcnt L nk))), (6, .int 0)] dX3_settle_18 (by decide) rfl rfl ?_
  exact o_X3_settle hs hVa hn hS hL hL9 hrc hm hU hgl (lc := lcnt L nk) (fun r hr => lcnt_gt (hhd r hr)) (lcnt_lt (fun k => by have := hL9 k; omega) nk) (lcnt L nk + 1) 0 σ _ _ (by omega) (by omega) hH1 hb (fun r hr => Or.inl (by rw [fa_fill_in (by omega)]))
