/-- what holds at the law's entry -/
def lw_At (l : Launch) (p : Program) (s : State) (m : MethodId) (meth : Method) (c : Code) (b L : Nat) (xs : Nat → Int32) : Prop :=
  p.tables.exec = Jvm.exec ∧ c.code = code ∧ meth.sig.returnType = ret ∧ c.maxLocals = 7 ∧ s.vm.findClass R_law = some m.cls ∧ (∀ w ∈ lw_tbl, w.before #[Value.ref b] s = true) ∧ va_X b L xs s s.heap ∧ b < s.heap.size ∧ meth.locks = false ∧ (Jvm.Cond.and given_1 narrow_1).before #[Value.ref b] s = true ∧ meth.name = x.name ∧ c.exceptionTable.toList = tableOf [] ∧ l.stackTraces = false
theorem xcl_at {s : State} {A : Array Value} (hts : ∀ w ∈ lw_tbl, w.before A s = true) : ∀ (k : Nat) (q : vw_C), xCl[k]? = some q → ∃ (cC : ClassId) (iS : Nat → Nat), u_Kn s q.1 q.2.1 q.2.2 cC iS := by
  intro k q hq
  match k, hq with
  | 0, hq => cases hq; exact u_known hts xin0 (hts _ it_X0)
  | 1, hq => cases hq; exact u_known hts xin1 (hts _ it_X1)
  | 2, hq => cases hq; exact u_known hts xin2 (hts _ it_X2)
  | 3, hq => cases hq; exact u_known hts xin3 (hts _ it_X3)
  | 4, hq => cases hq; exact u_known hts xin4 (hts _ it_X4)
  | 5, hq => cases hq; exact u_known hts xin5 (hts _ it_X5)
  | 6, hq => cases hq; exact u_known hts xin6 (hts _ it_X6)
  | 7, hq => cases hq; exact u_known hts xin7 (hts _ it_X7)
  | 8, hq => cases hq; exact u_known hts xin8 (hts _ it_X8)
  | 9, hq => cases hq; exact u_known hts xin9 (hts _ it_X9)
  | 10, hq => cases hq; exact u_known hts xin10 (hts _ it_X10)
  | 11, hq => cases hq; exact u_known hts xin11 (hts _ it_X11)
  | 12, hq => cases hq; exact u_known hts xin12 (hts _ it_X12)
  | 13, hq => cases hq; exact u_known hts xin13 (hts _ it_X13)
  | 14, hq => cases hq; exact u_known hts xin14 (hts _ it_X14)
  | 15, hq => cases hq; exact u_known hts (fun w hw => absurd hw (by simp [u_ws])) (hts (.instantiable "java/util/NoSuchElementException" 6) (xm4 118 rfl))
  | k + 16, hq => simp [xCl] at hq
abbrev lw_ty : List FieldType := [.int, .long, .byte, .boolean, .object RX8, .object RX9, .object RX12]
theorem xty_p {s : State} {A : Array Value} {ty : FieldType} (h : (Cond.arrayClass ty).before A s = true) (ho : ∀ C, ty ≠ .object C) : ∃ cA : ClassId, ArrOfT s cA ty ∧ va_RA s cA ty := by
  obtain ⟨c, k, comp, h1, h2, h3⟩ := Cond.arrayClass_spec h
  refine ⟨c, fun n z => ⟨fun k h => (by cases h), k, h2, comp, h3⟩, ?_⟩
  cases ty with
  | object C => exact absurd rfl (ho C)
  | _ => exact h1
theorem xty_o {s : State} {A : Array Value} {C : String} (h : (Cond.arrayOver (.object C)).before A s = true) : ∃ cA : ClassId, ArrOfT s cA (.object C) ∧ va_RA s cA (.object C) := by
  obtain ⟨comp, c, k, f1, f2, f3, f4, f5⟩ := Cond.arrayOver_spec h
  exact ⟨c, fun n z => ⟨fun k h => (by cases h), k, f3, comp, f4⟩, k, comp, f3, f4, f1, f5⟩
theorem xty_at {s : State} {A : Array Value} (hts : ∀ w ∈ lw_tbl, w.before A s = true) : ∀ (k : Nat) (ty : FieldType), lw_ty[k]? = some ty → ∃ cA : ClassId, ArrOfT s cA ty ∧ va_RA s cA ty := by
  intro k q hq
  match k, hq with
  | 0, hq => cases hq; exact xty_p (hts _ ac_int) (fun C h => by cases h)
  | 1, hq => cases hq; exact xty_p (hts _ ac_long) (fun C h => by cases h)
  | 2, hq => cases hq; exact xty_p (hts _ ac_byte) (fun C h => by cases h)
  | 3, hq => cases hq; exact xty_p (hts _ ac_boolean) (fun C h => by cases h)
  | 4, hq => cases hq; exact xty_o (hts _ ao_X8)
  | 5, hq => cases hq; exact xty_o (hts _ ao_X9)
  | 6, hq => cases hq; exact xty_o (hts _ ao_X12)
  | k + 7, hq => simp [lw_ty] at hq
theorem xT_of {s : State} {A : Array Value} (hts : ∀ w ∈ lw_tbl, w.before A s = true) : xT s := by
  intro w hw hk
  have h1 := hts w hw
  rcases xok_or hk with hg | ⟨a, i, b, n, d, k, rfl⟩ | ⟨a, i, x, k, rfl⟩ | ⟨C, rfl⟩ | ⟨x, rfl⟩
  · exact word_at (State.WarmedH.refl s) (good_of_word hg) h1
  · exact va_Nw.of rfl h1
  · exact va_Nw.of rfl h1
  · exact va_AO.of h1
  · exact va_Nw.of rfl h1
set_option maxRecDepth 100000 in
set_option maxHeartbeats 4000000 in
theorem whole_start {p : Program} {e : Env} {s : State} {m : MethodId} {below : List Frame} {meth : Method} {c : Code} (l : Launch) {b L : Nat} {xs : Nat → Int32} (hL : L ≤ 3072) (C0 : lw_At l p s m meth c b L xs) : W p l e room_1 s m #[Value.ref b] below meth c s.heap [] 0 0 (lw_Z below #[Value.ref b] s) (entryFrame m ([Value.ref b] : List Value).toArray 7) := by
  obtain ⟨hx, hb, hr, hml, hown, hts, hX, hbl, hlocks, hgv, hnm, hta, hst⟩ := id C0
  have e1 : ∀ k : Nat, ∃ y : ClassId × (Nat → Nat), ∀ q, xCl[k]? = some q → u_Kn s q.1 q.2.1 q.2.2 y.1 y.2 := fun k => by
    cases hq : xCl[k]? with
    | none => exact ⟨((0 : Nat), fun _ => 0), fun q h => by cases h⟩
    | some q => obtain ⟨cC, iS, h⟩ := xcl_at hts k q hq; exact ⟨(cC, iS), fun q' h' => by cases h'; exact h⟩
  obtain ⟨D, hD⟩ := Classical.axiomOfChoice e1
  have e2 : ∀ k : Nat, ∃ y : ClassId, ∀ ty, lw_ty[k]? = some ty → ArrOfT s y ty ∧ va_RA s y ty := fun k => by
    cases hq : lw_ty[k]? with
    | none => exact ⟨(0 : Nat), fun q h => by cases h⟩
    | some q => obtain ⟨cA, h⟩ := xty_at hts k q hq; exact ⟨cA, fun q' h' => by cases h'; exact h⟩
  obtain ⟨cA, hA⟩ := Classical.axiomOfChoice e2
  have hfl := flat_of_before _ hgv
  have r1 : (Cond.isRef (.static Bundle.tN "UNASSIGNED_STACK" Bundle.steD)).before #[Value.ref b] s = true := hfl _ (by decide +kernel)
  have r2 : (Cond.isRef (.static Bundle.tN "SUPPRESSED_SENTINEL" Bundle.listD)).before #[Value.ref b] s = true := hfl _ (by decide +kernel)
  have r3 : (Cond.exactly (Term.string "RuleCourt" 126) "java/lang/String").before #[Value.ref b] s = true := hfl _ (by decide +kernel)
  obtain ⟨sa, -, -, -, hsa, -⟩ := Cond.exactly_spec r3
  have hK : xK (l, s.heap.size, s.heap, (fun k => (D k).1, fun k => (D k).2), cA, b, L, xs) s := by
    refine ⟨⟨fun k q hq => hD k q hq, fun k q hq => ?_⟩, xT_of hts, hX, ⟨hbl, rfl, hst⟩, vx_Zqof (hts _ (xm4 144 rfl)) (hts _ (xm1 14 rfl)) r1 (fun a ha z => absurd z (Nat.not_le.mpr ha)), vx_Zqof (hts _ (xm4 146 rfl)) (hts _ (xm1 14 rfl)) r2 (fun a ha z => absurd z (Nat.not_le.mpr ha)), sa, vk_R.of (hts _ (xm4 157 rfl)) hsa⟩
    match k, hq with
    | 0, hq => cases hq; exact hA 0 _ rfl
    | 1, hq => cases hq; exact hA 1 _ rfl
    | 2, hq => cases hq; exact hA 2 _ rfl
    | 3, hq => cases hq; exact hA 3 _ rfl
    | 4, hq => cases hq; exact hA 4 _ rfl
    | 5, hq => cases hq; exact hA 5 _ rfl
    | 6, hq => cases hq; exact hA 6 _ rfl
    | k + 7, hq => simp [xTys] at hq
  have hl := lv_entry ([.ref b]) (n := 7) (Nat.le_of_ble_eq_true rfl)
  rw [lg_entry_eq]
  have K := law_all (G := (l, s.heap.size, s.heap, (fun k => (D k).1, fun k => (D k).2), cA, b, L, xs)) hL p e s m #[Value.ref b] below meth c s.heap [] _ ⟨hx, hb, hml, hown, hr, hlocks, hnm, hta, hK⟩ ⟨Nat.le_refl _, rfl, fun _ _ => rfl, fun a c h => by cases h⟩ (fun z h => by cases h) hl
  intro T hT X
  obtain ⟨t, a, b9⟩ := K T hT X
  exact ⟨t, a, b9 rfl⟩
set_option maxHeartbeats 4000000 in
theorem lw_walk (l : Launch) (hl9 : l.stackTraces = false) (b : Addr) (xs : List Int32) : MetFree l x (headSpec (Jvm.Cond.code x code maxLocals ret :: tables_1) room_1) (lw_P b xs) (fun _ _ _ _ _ => True) lw_Q := by
  refine MetFree.of_bodyS (code := code) (maxLocals := maxLocals) (ret := ret) (by decide) ?_ ?_
  · intro args s m h hn
    obtain ⟨meth, c, h1, h2, h3, h4, h5, h6, -, -⟩ := Cond.code_spec hn (atoms_spec (ws := Jvm.Cond.code x code maxLocals ret :: tables_1) h _ List.mem_cons_self)
    exact ⟨meth, c, h1, h2, h3, h4, h5, h6⟩
  · intro p e s m args below meth c s₁ B hml0 hP _
    obtain ⟨rfl, hx, hbd, hgv⟩ := hP
    obtain ⟨scr, harrAt, hlist, hof, hsmall⟩ := hx
    obtain ⟨hcb, hkn, -, -⟩ := State.arrayAt?_spec harrAt
    have hown : s.vm.findClass R_law = some m.cls := findClass_of_methodNamed B.named
    have hts0 : ∀ c ∈ (Jvm.Cond.code x code maxLocals ret :: tables_1), c.before #[Value.ref b] s = true := atoms_spec (ws := Jvm.Cond.code x code maxLocals ret :: tables_1) B.pre
    have hts : ∀ w ∈ lw_tbl, w.before #[Value.ref b] s = true := k2_hts_sels lw_privs (fun w hw => hts0 w (List.mem_cons_of_mem _ hw)) lw_privs_ok
    have hml : c.maxLocals = 7 := B.maxLocals_eq (hts0 _ List.mem_cons_self)
    have X₀ : Stand p l e room_1 s m #[Value.ref b] below meth c s₁ [] 0 0 := Stand.of_body B
    have hh0 : s₁.heap = s.heap := by rw [B.state]; rfl
    have ht9 : c.exceptionTable.toList = tableOf [] := by
      obtain ⟨meth9, c9, h1, h2, -, -, -, -, h7, -⟩ := Cond.code_spec B.named (hts0 _ List.mem_cons_self)
      cases Option.some.inj (h1.symm.trans B.method)
      cases Option.some.inj (h2.symm.trans X₀.code)
      rw [Array.isEmpty_iff.mp h7]
      rfl
    have hsz : scr.slots.size = xs.length := by rw [← Array.length_toList, hlist, List.length_map]
    have hval : ∀ j : Nat, j < xs.length → scr.slots[j]? = some (.int (xs.getD j 0)) := fun j hj => by
      rw [← Array.getElem?_toList, hlist]
      simp [hj]
    have hbl : b < s.heap.size := (Array.getElem?_eq_some_iff.mp hcb).1
    have hX : va_X b xs.length (fun j => xs.getD j 0) s s.heap := ⟨scr, hcb, hof, hkn, hsz, hval⟩
    have K : W p l e room_1 s m #[Value.ref b] below meth c s₁.heap [] 0 0 (lw_Z below #[Value.ref b] s) (entryFrame m ([Value.ref b] : List Value).toArray 7) := by
      rw [hh0]
      exact whole_start l hbd ⟨B.exec, B.bytes, B.returns, hml, hown, hts, hX, hbl, B.notSynchronized, hgv, (name_of_methodNamed B.named B.method).1, ht9, hl9⟩
    obtain ⟨t, a1, o, b1, b2, b3⟩ := K s₁ rfl X₀
    exact ⟨t, o, a1, b1, b2, b3⟩
theorem lw_pre_spec {args : Array Value} {s : State} (h : (Jvm.Cond.and given_1 narrow_1).before args s = true) (hr : rest_1_c.before args s = true) : ∃ (b : Addr) (xs : List Int32), lw_P b xs args s := by
  have hs := flat_of_before _ h
  have hq := flat_of_before _ hr
  have hc : (Cond.count 1).before args s = true := hs _ (by decide +kernel)
  have harr : (Cond.arrayOf (.arg 0) .int).before args s = true := hs _ (by decide +kernel)
  have hle : (Cond.le (.length (.arg 0)) (.int 3072)).before args s = true := hs _ (by decide +kernel)
  have hlen : (Cond.isInt (.length (.arg 0))).before args s = true := hq _ (by decide +kernel)
  have hall : (Cond.all (.arg 0) (.isInt (.elem (.arg 0) (.index 0)))).before args s = true := hq _ (by decide +kernel)
  obtain ⟨b, xs, hb, hx⟩ := State.ints_of_pre rfl harr hlen hall
  have hsm : xs.length < 2 ^ 31 := hx.choose_spec.2.2.2
  have hev : (Term.length (.arg 0)).eval args s none [] s = some (.int xs.length.toInt32) := hx.length_eval hb
  have hv := Cond.le_ints hev (show (Term.int 3072).eval args s none [] s = some (.int 3072) from rfl)
  have hd : xs.length.toInt32 ≤ 3072 := by
    simpa [Cond.before, Cond.holds, hv] using hle
  have hN : xs.length ≤ 3072 := (Int32.ofNat_le_ofNat hsm (by decide)).mp (show Int32.ofNat xs.length ≤ Int32.ofNat 3072 from hd)
  exact ⟨b, xs, Cond.one_arg hc (show args[0]? = some (.ref b) from hb), hx, hN, h⟩
theorem lw_comes (l : Launch) (hl9 : l.stackTraces = false) : Comes l x (Jvm.Cond.code x code maxLocals ret :: tables_1) room_1 (fun tb e args s => Calls_1 tb e args s ∧ rest_1 tb e args s ∧ Pre_1 tb e args s)
    (fun _ _ args s o t => lw_Q args s o t) := by
  intro p e ha hc hk s m args below hf hfit hheap happ hpre
  obtain ⟨b, xs, hP⟩ := lw_pre_spec hpre.2.2 hpre.2.1
  obtain ⟨k, o, h1, h2, h3, hQ⟩ := lw_walk l hl9 b xs p e ha hc hk s m args below hf ((Spec.applies_iff_loose hf).mp happ).1 hP trivial
  exact ⟨k, o, h1, h2, h3, hQ⟩
theorem lw_frame {s t : State} {o : Outcome} {args : Array Value} (h : Framed s o t [] 601024 7293034) :
    Framed s o t (fieldLocs frame_1_writes args s ++ arrayLocs frame_1_arrays args s ++ staticLocs frame_1_statics s) 601024 7293034 := h
theorem lw_limb (L : Cond) (hL : ∀ (args : Array Value) (s t : State), L.after args s (.returned (some (.int 1))) t = true) :
    ArmFor flags0 classFile x code maxLocals ret World_1 tables_1 room_1 Calls_1 rest_1 Pre_1
      (fun tb e a s o t => postC L tb e a s o t ∧ Framed s o t (fieldLocs frame_1_writes a s ++ arrayLocs frame_1_arrays a s ++ staticLocs frame_1_statics s) 601024 7293034) := by
  intro l hfl _ _ p e ha hc hk s m args below hf hfit hheap happ hpre
  obtain ⟨k, o, h1, h2, h3, rfl, hF⟩ := lw_comes l (by unfold Launch.stackTraces; rw [hfl]; decide) p e ha hc hk s m args below hf hfit hheap happ hpre
  exact ⟨k, _, h1, h2, h3, hL args s _, lw_frame hF⟩
theorem i_vc : Claimed_1_1 ∧ Claimed_1_2 := ⟨lw_limb limb_1_1 (fun args s t => by simp [limb_1_1, Cond.after, Cond.holds, Cond.value]), lw_limb limb_1_2 (fun args s t => Cond.after_iff.mpr (by
  first | (rw [show limb_1_2 = Cond.eq .result (.int 1) from rfl, Cond.eq_ints (x := 1) (y := 1) rfl rfl]; simp; done) | (simp [limb_1_2, Cond.value, Term.eval]; done)))⟩
