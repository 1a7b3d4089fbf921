/-! 'throw new NoSuchElementException("no such letter")' -/
abbrev NSE : String := "java/util/NoSuchElementException"
abbrev NSN : List String := ["java/lang/RuntimeException", "java/lang/Exception"]
abbrev nsA : List Cond := (Bundle.ownAtomsX RX11 128 NSE 13 prog_25_method_4_code NSN).filter (fun w => vx_no w && decide (w ≠ .castable NSE NSE))
set_option maxRecDepth 100000 in
theorem ns_w1 : ∀ w ∈ nsA, w ∈ lw_tbl := by decide +kernel
set_option maxRecDepth 100000 in
theorem ns_w2 : ∀ w ∈ nsA, vx_ot w = true ∧ xok w = true := by decide +kernel
set_option maxHeartbeats 4000000 in
/-- the constructor by its own index, then the throw: after the library's law for constructors of index 7 -/
theorem ns_ctor {p : Program} {l : Launch} {e : Env} {R : Room} {s : State} {m₀ : MethodId} {args : Array Value} {below : List Frame} {meth : Method} {c : Code} {W : State} {locs : List Loc} {cells slots : Nat} (X : Stand p l e R s m₀ args below meth c W locs cells slots) (hexec : p.tables.exec = Jvm.exec) (htr : e.platform.stackTraces = false) {own cls : String} {names : List String} {ic ix : Nat} {rx : ByteArray}
    (x0 : decode rx 0 = .ok (.aload_n 0, 1)) (x1 : decode rx 1 = .ok (.aload_n 1, 1)) (x2 : decode rx 2 = .ok (.invokespecial ix, 3)) (x5 : decode rx 5 = .ok (.return_, 1))
    (hown : s.vm.findClass own = some m₀.cls) (hcls : Bundle.fit cls = true) (hnames : ∀ n ∈ names, Bundle.fit n = true)
    (h : ∀ a ∈ (Bundle.ownAtomsX own ic cls ix rx names).filter (fun w => decide (w ≠ .castable cls cls)), a.before args s = true)
    (hlocs : ∀ x ∈ locs, ∀ cell, s.heap[x.base]? = some cell → cell.vm.isStatics = false)
    {a : Addr} {cX : ClassId} {kX : Class} (hfoundX : s.vm.findClass cls = some cX) (hkX : s.vm.classes[cX]? = some kX) (hcell : W.heap[a]? = some (freshCell cX kX)) (hnew : s.heap.size ≤ a)
    {msg : Value} (hmsg : msg.isRef = true)
    {g : JFrame} (hg : g.method = m₀) (hsize : g.locals.size = c.maxLocals) (hlocked : g.locked = none) (hentered : g.entered = []) {rest : List Value} (hstack : g.stack = msg :: .ref a :: .ref a :: rest)
    (hd6 : decode c.code g.pc = .ok (.invokespecial ic, 3)) (hd9 : decode c.code (g.pc + 3) = .ok (.athrow, 1)) (hout : ∀ x ∈ c.exceptionTable.toList, covers x (g.pc + 3) = false)
    (hRframes : names.length + 3 < R.frames) (hRlocals : 2 * g.monitorRoom + ((Value.ref a :: rest).map fun v => v.category).sum + (13 * (names.length + 1) + 42) ≤ R.locals) (hlocks : meth.locks = false) :
    ∃ U : State, Steps p.tables e below (W.setTop g) U ∧ U.status = .running ∧ Ended U below (.threw a) ∧ s.WarmedH U.vm ∧ s.sameButNew ({ U with vm := s.vm } : State) locs cells slots ∧
      ∃ ce, U.heap[a]? = some ce ∧ ce.cls = cX ∧ ce.vm = .none := by
  have howns : e.platform.frameOwnsMonitors = true := by rw [X.admits.platform]
  have hfin : e.platform.finalization = false := by rw [X.admits.platform]
  have hpl : e.platform.magicAccessors = ({} : Platform).magicAccessors := by rw [X.admits.platform]
  have hb : ∀ x, x ∈ Bundle.ownAtomsX own ic cls ix rx names → x ≠ .castable cls cls → x.before args s = true := fun x hx hn => h x (List.mem_filter.mpr ⟨hx, decide_eq_true hn⟩)
  have a' : ∀ x, x ∈ Bundle.ownAtomsX own ic cls ix rx names → x ≠ .castable cls cls → x.holds args s none s [] = true := fun x hx hn => hb x hx hn
  obtain ⟨T, Z0, L, -, Y⟩ := ThrowableC.of_atoms (args := args) howns hfin hpl (fun x hx => hb x (by simp [Bundle.ownAtomsX, hx]) (fun z => by rw [z] at hx; simp [Bundle.throwableAtoms] at hx))
  obtain ⟨Z, M, LZ, LM, hnZ⟩ := Init0T.ofS_atoms (args := args) hpl L Y (fun x hx => hb x (by simp [Bundle.ownAtomsX, hx]) (fun z => by rw [z] at hx; simp [Bundle.throwableSAtoms] at hx))
  have hch : ∀ x ∈ Bundle.chainSAtomsX cls ix rx names, x ≠ .castable cls cls := by
    intro x hx z
    subst z
    have key : ∀ (n : List String) (X : String), Cond.castable cls cls ∉ Bundle.chainSAtoms X n := by
      intro n
      induction n with
      | nil => intro X hx; simp [Bundle.chainSAtoms, Bundle.passSAtoms] at hx
      | cons y r ih => intro X hx; simp only [Bundle.chainSAtoms, List.mem_append] at hx; rcases hx with hx | hx; simp [Bundle.passSAtoms] at hx; exact ih y hx
    cases names with
    | nil => simp [Bundle.chainSAtomsX, Bundle.passSAtoms] at hx
    | cons y r =>
      simp only [Bundle.chainSAtomsX, List.mem_append] at hx
      rcases hx with hx | hx
      · simp [Bundle.passSAtoms] at hx
      · exact key r y hx
  obtain ⟨P1, Ps, hlen, L1, hL, hP1m, hlink1, hlink⟩ := Bundle.chainSX (args := args) hpl hnZ x0 x1 x2 x5 names cls hcls hnames (fun x hx => hb x (by simp [Bundle.ownAtomsX, hx]) (hch x hx))
  have hfound : s.vm.findClass cls = some P1.m.cls := findClass_of_methodNamed hP1m
  cases Option.some.inj (hfoundX.symm.trans hfound)
  obtain ⟨c1, kX', hc1, hk, hord, -, -, hn6⟩ := Cond.instantiable_spec (a' (.instantiable cls 6) (by simp [Bundle.ownAtomsX]) (fun z => by cases z))
  cases Option.some.inj (hc1.symm.trans hfound)
  cases Option.some.inj (hkX.symm.trans hk)
  have hsel0 : selectMethod e.platform s.vm P1.m.cls T.fill0 = .method T.fill0 := by
    obtain ⟨c2, r2, m2, q1, q2, q3, q4, -⟩ := Cond.selects_spec (a' (.selects cls Bundle.tFill0 Bundle.tFill0) (by simp [Bundle.ownAtomsX]) (fun z => by cases z))
    cases Option.some.inj (q1.symm.trans hfound)
    cases Option.some.inj (q2.symm.trans (State.methodFound?_of_named Y.fill0 (by decide)))
    cases Option.some.inj (q3.symm.trans Y.fill0)
    rw [Launch.admits_selectMethod X.admits]; exact q4
  have hselF : selectMethod e.platform s.vm P1.m.cls T.fill = .method T.fill := by
    obtain ⟨c2, r2, m2, q1, q2, q3, q4, -⟩ := Cond.selects_spec (a' (.selects cls Bundle.tFill Bundle.tFill) (by simp [Bundle.ownAtomsX]) (fun z => by cases z))
    cases Option.some.inj (q1.symm.trans hfound)
    cases Option.some.inj (q2.symm.trans (State.methodFound?_of_named Y.fill (by decide)))
    cases Option.some.inj (q3.symm.trans Y.fill)
    rw [Launch.admits_selectMethod X.admits]; exact q4
  obtain ⟨cellS0, hcS0, hiss⟩ := Y.statics
  obtain ⟨u0, hu0⟩ := Cond.staticRefV Y.unassigned L.unassignedStatic L.statics hcS0 hiss (a' (.isRef (.static Bundle.tN "UNASSIGNED_STACK" Bundle.steD)) (by simp [Bundle.ownAtomsX]) (fun z => by cases z))
  obtain ⟨sen, hsen⟩ := Cond.staticRefV Y.sentinel L.sentinelStatic L.statics hcS0 hiss (a' (.isRef (.static Bundle.tN "SUPPRESSED_SENTINEL" Bundle.listD)) (by simp [Bundle.ownAtomsX]) (fun z => by cases z))
  obtain ⟨ci198, i198, fB, hk198, hg198, ha198, hsB, -, hnB, htB, hffB⟩ := Cond.ownField (t := .object "java/lang/Object") Y.found L.cls (by decide +kernel) (a' (.fieldLink Bundle.tN 198 Bundle.tN "backtrace" "Ljava/lang/Object;") (by simp [Bundle.ownAtomsX]) (fun z => by cases z)) (a' (.lays Bundle.tN Bundle.tN "backtrace" "Ljava/lang/Object;") (by simp [Bundle.ownAtomsX]) (fun z => by cases z)) e.platform hpl
  obtain ⟨cellS, hcS', heS, -, hkeep⟩ := X.same.2.2.2.2.2 T.aS cellS0 hcS0
  have hcellS : W.heap[T.aS]? = some cellS := hcS'
  have hout' : ∀ i, (⟨T.aS, i⟩ : Loc) ∉ locs := fun i hmem => by
    have := hlocs _ hmem cellS0 hcS0
    rw [hiss] at this; cases this
  have hknownS : cellS.vm ≠ .unknown := by
    rw [heS]; intro hu
    rw [show cellS0.vm = .unknown from hu] at hiss
    cases hiss
  have hneS : T.aS ≠ a := Nat.ne_of_lt (Nat.lt_of_lt_of_le (Array.getElem?_eq_some_iff.mp hcS0).1 hnew)
  obtain ⟨iM, hffM⟩ := Y.msg
  obtain ⟨tyC, dC, hdC, hdnC⟩ := Cond.laysAt hfound hk Y.cause (a' (.lays cls Bundle.tN "cause" "Ljava/lang/Throwable;") (by simp [Bundle.ownAtomsX]) (fun z => by cases z))
  obtain ⟨tyS, dS, hdS, hdnS⟩ := Cond.laysAt hfound hk Y.stack (a' (.lays cls Bundle.tN "stackTrace" Bundle.steD) (by simp [Bundle.ownAtomsX]) (fun z => by cases z))
  obtain ⟨tyP, dP, hdP, hdnP⟩ := Cond.laysAt hfound hk Y.supp (a' (.lays cls Bundle.tN "suppressedExceptions" Bundle.listD) (by simp [Bundle.ownAtomsX]) (fun z => by cases z))
  obtain ⟨tyM, dM, hdM, hdnM⟩ := Cond.laysAt hfound hk hffM (a' (.lays cls Bundle.tN "detailMessage" "Ljava/lang/String;") (by simp [Bundle.ownAtomsX]) (fun z => by cases z))
  obtain ⟨tyB, dB, hdB, hdnB⟩ := Cond.laysAt hfound hk hffB (a' (.lays cls Bundle.tN "backtrace" "Ljava/lang/Object;") (by simp [Bundle.ownAtomsX]) (fun z => by cases z))
  have bC := Cond.laysApart hdB hdC hdnB hdnC (by rw [hnB, Y.causeName]; decide)
  have bS := Cond.laysApart hdB hdS hdnB hdnS (by rw [hnB, Y.stackName]; decide)
  have bP := Cond.laysApart hdB hdP hdnB hdnP (by rw [hnB, Y.suppName]; decide)
  have hskip : SkipFacts T e.platform s (fun u => u) u0 ((preparedCellV T.toThrowableT (freshCell P1.m.cls kX) a u0 sen).withEntry W.cur) :=
    ⟨{ ci198 := ci198, i198 := i198, fBack := fB }, ⟨hk198, hg198, ha198, hsB⟩, by
      have := fresh_default (c := P1.m.cls) tyB
      rw [htB] at this
      simpa [preparedCellV, Cell.setSlot, Cell.withEntry, Array.getElem?_setIfInBounds, bC, bS, bP, bC.symm, bS.symm, bP.symm, defaultValue] using this, fun _ _ => rfl⟩
  obtain ⟨tm, methC, cdC, kC, vm₁, hnC, -, -, -, -, -, -, -, hW₁, st1⟩ := Steps.initColdS (tb := p.tables) (e := e) (below := below) (s := s) (U := W) X.here hexec X.warmed hpl hown (t := Bundle.initS cls) rfl rfl (Bundle.fit_spec hcls).2
    (a' (.methodLink own ic (Bundle.initS cls)) (by simp [Bundle.ownAtomsX]) (fun z => by cases z)) (hb (.instanceMethod (Bundle.initS cls)) (by cases names <;> simp [Bundle.ownAtomsX, Bundle.chainSAtomsX, Bundle.passSAtoms]) (fun z => by cases z)) (bytes := rx) (maxL := 2) (hb (.code (Bundle.initS cls) rx 2 none) (by cases names <;> simp [Bundle.ownAtomsX, Bundle.chainSAtomsX, Bundle.passSAtoms]) (fun z => by cases z))
    (f := g) hg (a := a) (msg := msg) (rest := .ref a :: rest) hstack hd6
  cases Option.some.inj (hnC.symm.trans hP1m)
  have X₁ := X.noted hW₁
  obtain ⟨vm₂, X₂, st2⟩ := X₁.ctorMessageOffV hexec (g := { g with stack := .ref a :: rest }) hg hsize T L Z LZ M LM (P1 :: Ps)
    (fun P hP => by rcases List.mem_cons.mp hP with rfl | hP; exact L1; exact hL P hP) ⟨hlink1, hlink⟩ (u0 := u0) (sen := sen) (self := a) hmsg (cell := freshCell P1.m.cls kX) (cellS := cellS)
    hcell (fun _ => by simp) (by simp) rfl rfl hsel0 hselF hcellS hneS hknownS (by rw [hkeep _ (hout' _)]; exact hu0) (by rw [hkeep _ (hout' _)]; exact hsen)
    (Takes.of_laid hk hord tyC (by rw [Y.causeType]; rfl)) (Takes.of_laid hk hord tyS (by rw [Y.stackType]; exact fits_refV_array _ u0)) (Takes.of_laid hk hord tyP (by rw [Y.suppType]; exact fits_refV_object _ sen))
    (Takes.of_laid hk hord tyM (by rw [Y.msgType]; exact fits_refV_object _ ⟨msg, hmsg⟩)) Y.objLocals hskip htr [] hd6
    (by simp only [List.length_cons, hlen]; omega) (by simp only [List.length_cons, hlen]; exact hRlocals)
  obtain ⟨hwalk, hrun, hended, hWU, hsame⟩ := X₂.athrowLeaves hexec (g := { g with stack := .ref a :: rest, pc := g.pc + 3 }) hg hlocked hentered hout (a := a) (rest := rest) rfl hd9
  have hlt : a < ((W.setVm vm₁).setVm vm₂).heap.size := (Array.getElem?_eq_some_iff.mp hcell).1
  have hU := heapAt_setCell_self (s := (W.setVm vm₁).setVm vm₂) (plainBareV T.toThrowableT (freshCell P1.m.cls kX) a u0 sen msg) hlt
  refine ⟨_, st1 _ (fun acts => ?_), hrun, hended, hWU, hsame.weaken (fun y hy hlt' => ?_) (Nat.le_refl _) (Nat.le_refl _), _, hU, rfl, rfl⟩
  · rw [doInvoke_state]
    exact st2 _ hwalk
  · rcases List.mem_append.mp hy with h1 | h1
    · exact h1
    · exfalso
      have hb : y.base = a := by
        simp only [List.mem_cons, List.not_mem_nil, or_false] at h1
        rcases h1 with rfl | rfl | rfl | rfl | rfl <;> rfl
      rw [hb] at hlt'
      exact Nat.not_lt.mpr hnew hlt'
theorem ns_old {args : Array Value} {s : State} {L : List Cond} (h : ∀ w ∈ L.filter (fun w => vx_no w && decide (w ≠ .castable NSE NSE)), w.before args s = true) : ∀ w ∈ (L.filter (fun w => decide (w ≠ .castable NSE NSE))).filter vx_no, w.before args s = true := fun w hw => by
  obtain ⟨h1, h2⟩ := List.mem_filter.mp hw
  obtain ⟨h3, h4⟩ := List.mem_filter.mp h1
  exact h w (List.mem_filter.mpr ⟨h3, by rw [h2, h4]; rfl⟩)
set_option maxHeartbeats 4000000 in
theorem x_throwNS {G : xG} {M : xM} {R : Room} {Q : Option Value ⊕ Nat → xHp → Prop} {mc ms uc us pc : Nat} {ls : List (Nat × Value)} {st : List Value} {h : xHp} (hM : M.1.cls = RX11) (hh : tableOf M.2.2.2.2 = []) (d0 : decode M.2.1 pc = .ok (.new 124, 3)) (d3 : decode M.2.1 (pc + 3) = .ok (.dup, 1)) (d4 : decode M.2.1 (pc + 4) = .ok (.ldc 126, 2)) (d6 : decode M.2.1 (pc + 6) = .ok (.invokespecial 128, 3)) (d9 : decode M.2.1 (pc + 9) = .ok (.athrow, 1))
    (hRframes : 5 < R.frames) (hRlocals : (st.map fun v => v.category).sum + 82 ≤ R.locals) (hRcells : uc + 1 ≤ R.cells) (hRslots : us + 6 ≤ R.slots) (hc9 : uc + 1 ≤ mc) (hs9 : us + 6 ≤ ms) (hq : Q (.inr h.2) (xnw h (.inr (15, [])))) : Wx G M R (xF G Q mc ms) uc us pc ls st h := by
  intro p e s m args below meth c H locs lsA hC hR hL hl
  obtain ⟨hx, hb, hml, hown, hr, hlo, hnme, htab, hK, hT, hX, ⟨hB1, hB2, hB3⟩, hZ1, hZ2, sa, hstr⟩ := hC
  rw [hM] at hown
  intro T hT9 X
  have htr : e.platform.stackTraces = false := (show e.platform.stackTraces = G.1.stackTraces by rw [X.admits.platform]).trans hB3
  have Y := vx_rebase X (R' := { frames := R.frames, locals := R.locals, cells := 1, slots := 6 }) (Nat.le_refl _) (Nat.le_refl _) hRcells hRslots
  obtain ⟨s', hA⟩ : ∃ z, z = (T.setVm s.vm).setFrames (.invoking m args :: below) := ⟨_, rfl⟩
  rw [← hA] at Y
  have hvm : s'.vm = s.vm := by rw [hA]; rfl
  have hhp : s'.heap = H := by rw [hA]; exact hT9
  have hW0 : s.WarmedH s'.vm := by rw [hvm]; exact State.WarmedH.refl s
  have hat' : ∀ w ∈ nsA, w.before args s' = true := fun w hw => vx_ot_at hW0 hvm.symm (ns_w2 w hw).1 (hT.use (ns_w1 w hw) (ns_w2 w hw).2 args)
  have hk' : (Cond.classLink RX11 124 NSE).before args s' = true := vx_ot_at hW0 hvm.symm rfl (hT.use ck_X11_124 rfl args)
  have hini' : (Cond.initialized NSE).before args s' = true := vx_ot_at hW0 hvm.symm rfl (hT.use (xm1 21 rfl) rfl args)
  have hold : ∀ a : Nat, a < (xH0 G).size → ¬ xB G ≤ a → H[a]? = (xH0 G)[a]? := fun a _ h2 => hR.2.2.1 a (by omega)
  have hU' : vx_Zq Bundle.tN "UNASSIGNED_STACK" Bundle.steD (fun q => xB G ≤ q) s' s'.heap := by rw [hhp]; exact vx_Zq.moved hW0.alike (hZ1.kept hold)
  have hN' : vx_Zq Bundle.tN "SUPPRESSED_SENTINEL" Bundle.listD (fun q => xB G ≤ q) s' s'.heap := by rw [hhp]; exact vx_Zq.moved hW0.alike (hZ2.kept hold)
  have h9 : ∀ w ∈ (Bundle.ownAtomsX RX11 128 NSE 13 prog_25_method_4_code NSN).filter (fun w => decide (w ≠ .castable NSE NSE)), w.before args s' = true := vx_own (ns_old hat') (vx_isRefq hU'.1) (vx_isRefq hN'.1) hU'.2.word hN'.2.word
  have hown' : s'.vm.findClass RX11 = some m.cls := by rw [hvm]; exact hown
  have hins : (Cond.instantiable NSE 6).before args s' = true := h9 _ (List.mem_filter.mpr ⟨by simp [Bundle.ownAtomsX], by decide⟩)
  obtain ⟨vm₁, cX, kX, hfX, hkX, -, -, X₁, st1⟩ := Y.newCold hx (own := RX11) (C := NSE) (index := 124) (n := 6) hown' hk' hins hini'
    (g := F0 m pc lsA (st.map (xv G))) rfl (by rw [hb]; exact d0) (Nat.le_refl _) (Nat.le_refl _)
  generalize hT1 : (T.setVm vm₁).pushCell { cls := cX, slots := kX.instanceTypes.map defaultValue, vm := .none } = T1 at X₁ st1
  have hcat : (Value.ref T.heap.size).category = 1 := rfl
  have hcellA : T1.heap[T.heap.size]? = some (freshCell cX kX) := by rw [← hT1]; exact State.heap_pushCell_size _ _
  have d3' : decode c.code (pc + 3) = .ok (.dup, 1) := by rw [hb]; exact d3
  have d4' : decode c.code (pc + 4) = .ok (.ldc 126, 2) := by rw [hb]; exact d4
  have hstr' : vk_R RX11 126 "no such letter" sa s' := vk_R.warm hW0 hstr
  obtain ⟨U, hsteps, hrun, hend, hW, hsame, ce, hce, hO1, hO2⟩ := ns_ctor X₁ hx htr (own := RX11) (cls := NSE) (names := NSN) (ic := 128) (ix := 13) (rx := prog_25_method_4_code) (by decide +kernel) (by decide +kernel) (by decide +kernel) (by decide +kernel) hown' (by decide +kernel) (by decide +kernel) h9 (fun x hx => nomatch hx) hfX hkX hcellA (by rw [hhp, hT9]; exact Nat.le_refl _) (msg := .ref sa) rfl
    (g := { method := m, pc := pc + 6, locals := lsA, stack := .ref sa :: .ref T.heap.size :: .ref T.heap.size :: st.map (xv G), locked := none }) rfl (hl.1.trans hml.symm) rfl rfl (rest := st.map (xv G)) rfl
    (by rw [hb]; exact d6) (by rw [hb]; exact d9) (by rw [htab, hh]; intro x hx; cases hx) hRframes (by simp only [List.map_cons, List.sum_cons, hcat, xcat_sum]; show _ + (13 * 3 + 42) ≤ _; omega) hlo
  obtain ⟨f1, f2⟩ := vx_frame hsame
  rw [hhp] at f1 f2
  have hWs : s.WarmedH U.vm := State.WarmedH.trans hW0 hW
  have hsz : U.heap.size = H.size + 1 := by
    have a1 : U.heap.size ≤ s'.heap.size + (0 + 1) := hsame.2.2.1
    rw [hhp] at a1
    have a2 := (Array.getElem?_eq_some_iff.mp hce).1
    rw [hT9] at a2
    omega
  have hall : s.sameButNew ({ U with vm := s.vm } : State) locs mc ms := by
    subst hA
    obtain ⟨e1, e2⟩ := hsame
    rw [State.setFrames_setFrames] at e1
    have h2 : (T.setVm s.vm).sameButNew ({ U with vm := s.vm } : State) [] (0 + 1) (0 + 6) := ⟨e1, e2⟩
    have h3 := X.same.trans h2
    rw [List.append_nil] at h3
    exact h3.mono hc9 hs9
  have hcl15 : xCl[15]? = some (NSE, TJ7, 0) := rfl
  have hD : cX = (xD G).1 15 := by
    have q1 := (hK.1 15 _ hcl15).2.1
    rw [hvm] at hfX
    exact Option.some.inj (hfX.symm.trans q1)
  refine ⟨U, ?_, .threw T.heap.size, hrun, hend, locs, xnw h (.inr (15, [])), hWs, hall, hL, hR.nw hsz (fun q hq9 => f2 q hq9 (fun z hz => nomatch hz)) ⟨_, hcl15, ce, by rw [← hT9]; exact hce, hO1.trans hD, hO2, fun k hk => absurd hk (Nat.not_lt_zero k)⟩, Or.inr ⟨h.2, 15, [], by rw [hR.new_at, hT9], xnw_self _ _, hq⟩⟩
  refine st1 _ ?_
  show Steps p.tables e below (T1.setTop { method := m, pc := pc + 3, locals := lsA, stack := .ref T.heap.size :: st.map (xv G), locked := none }) _
  jvm_step X₁.here [X₁.here.top, hx, d3', Value.category]
  exact X₁.ldcString hx (own := RX11) (text := "no such letter") (index := 126) (a := sa) hown' hstr'.1 hstr'.2
    (g := { method := m, pc := pc + 4, locals := lsA, stack := .ref T.heap.size :: .ref T.heap.size :: st.map (xv G), locked := none }) rfl d4' _ hsteps
