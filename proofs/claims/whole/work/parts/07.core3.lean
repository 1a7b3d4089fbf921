/-! contracts -/
def xQ (G : xG) (Q : Option Value ⊕ Nat → xHp → Prop) (mc ms : Nat) (st : State) (o : Outcome) (t : State) : Prop :=
  ∃ (L : List Loc) (h' : xHp), st.WarmedH t.vm ∧ st.sameButNew ({ t with vm := st.vm } : State) L mc ms ∧ (∀ z ∈ L, xB G ≤ z.base) ∧ xR G h' t.heap ∧ ((∃ v : Option Value, o = .returned (v.map (xv G)) ∧ Q (.inl v) h') ∨ ∃ (q ci : Nat) (fs : List Value), o = .threw (xa G q) ∧ h'.1 q = some (.inr (ci, fs)) ∧ Q (.inr q) h')
def xF (G : xG) (Q : Option Value ⊕ Nat → xHp → Prop) (mc ms : Nat) : List Frame → Array Value → State → State → Prop := fun below _ s t => ∃ o, t.status = .running ∧ Ended t below o ∧ xQ G Q mc ms s o t
def xRm (d mc ms : Nat) : Room := { frames := d, cells := mc, slots := ms, locals := 100 * d }
def xCW (M : xM) : Cond := match M.2.2.2.2 with
  | [] => .code M.1 M.2.1 M.2.2.1 M.2.2.2.1
  | hh => .codeWith M.1 M.2.1 M.2.2.1 M.2.2.2.1 hh
def xP (G : xG) (As : List Value) (h : xHp) : Array Value → State → Prop := fun v U => v = (As.map (xv G)).toArray ∧ xR G h U.heap ∧ xK G U
/-- the method M, called with As in the heap h, ends with Q (.inl answer) heap or Q (.inr thrown) heap -/
def MX (G : xG) (M : xM) (d mc ms : Nat) (As : List Value) (h : xHp) (Q : Option Value ⊕ Nat → xHp → Prop) : Prop :=
  MetFree G.1 M.1 (headSpec [xCW M] (xRm d mc ms)) (xP G As h) (fun _ _ _ _ _ => True) (fun _ st o t => xQ G Q mc ms st o t)
theorem xargs (G : xG) : ∀ (As : List Value) (i : Nat), lv_args i (As.map (xv G)) = xL G (lv_args i As)
  | [], _ => rfl
  | v :: r, i => by
    show (i, xv G v) :: lv_args (if (xv G v).category = 2 then i + 2 else i + 1) (r.map (xv G)) = (i, xv G v) :: xL G (lv_args (if v.category = 2 then i + 2 else i + 1) r)
    rw [xv_cat, xargs G r]
theorem xsl_len (G : xG) : ∀ As : List Value, (lg_sl (As.map (xv G))).length = (lg_sl As).length
  | [] => rfl
  | v :: r => by
    have ih := xsl_len G r
    simp only [lg_sl, List.map_cons, List.flatMap_cons, List.length_append, xv_cat] at ih ⊢
    rw [ih]
    congr 1
    split <;> rfl
theorem xcat_sum (G : xG) (st : List Value) : ((st.map (xv G)).map fun v => v.category).sum = (st.map fun v => v.category).sum := by
  rw [List.map_map]
  congr 1
  exact List.map_congr_left (fun v _ => xv_cat G v)
theorem MX.of {G : xG} {M : xM} {d mc ms : Nat} {As : List Value} {h : xHp} {Q : Option Value ⊕ Nat → xHp → Prop} (ls0 : List (Nat × Value)) (hy : plainName M.1.cls = true) (hh : M.2.2.2.2 = []) (hlen : (lg_sl As).length ≤ M.2.2.1) (hls : lv_args 0 As = ls0) (body : Wx G M (xRm d mc ms) (xF G Q mc ms) 0 0 0 ls0 [] h) : MX G M d mc ms As h Q := by
  obtain ⟨y, cc, nL, ret, hh'⟩ := M
  have hh : hh' = [] := hh
  subst hh
  subst hls
  refine MetFree.of_bodyS (code := cc) (maxLocals := nL) (ret := ret) hy ?_ ?_
  · intro args s m h hn
    obtain ⟨meth, c, h1, h2, h3, h4, h5, h6, -, -⟩ := Cond.code_spec hn (atoms_spec (ws := [xCW (y, cc, nL, ret, [])]) h _ List.mem_cons_self)
    exact ⟨meth, c, h1, h2, h3, h4, h5, h6⟩
  · intro p e s m args below meth c s₁ B hml hP _
    obtain ⟨rfl, hR, hK⟩ := hP
    have hh0 : s₁.heap = s.heap := by rw [B.state]; rfl
    have ht : c.exceptionTable.toList = tableOf [] := by
      obtain ⟨meth9, c9, h1, h2, -, -, -, -, h7, -⟩ := Cond.code_spec B.named (atoms_spec (ws := [xCW (y, cc, nL, ret, [])]) B.pre _ List.mem_cons_self)
      cases Option.some.inj (h1.symm.trans B.method)
      cases Option.some.inj (h2.symm.trans (Stand.of_body B).code)
      rw [Array.isEmpty_iff.mp h7]
      rfl
    have hl := lv_entry (As.map (xv G)) (n := nL) (by rw [xsl_len]; exact hlen)
    rw [xargs] at hl
    have K := body p e s m (As.map (xv G)).toArray below meth c s.heap [] _ ⟨B.exec, B.bytes, hml, findClass_of_methodNamed B.named, B.returns, B.notSynchronized, (name_of_methodNamed B.named B.method).1, ht, hK⟩ hR (fun z h => by cases h) hl
    have K' : W p G.1 e (xRm d mc ms) s m (As.map (xv G)).toArray below meth c s.heap [] 0 0 (xF G Q mc ms below (As.map (xv G)).toArray s) (entryFrame m (As.map (xv G)).toArray nL) := by
      rw [lg_entry_eq]
      exact K
    obtain ⟨t, a1, o, b1, b2, b3⟩ := K' s₁ hh0 (Stand.of_body B)
    exact ⟨t, o, a1, b1, b2, b3⟩
theorem MX.ofH {G : xG} {M : xM} {d mc ms : Nat} {As : List Value} {h : xHp} {Q : Option Value ⊕ Nat → xHp → Prop} (ls0 : List (Nat × Value)) (hy : plainName M.1.cls = true) (hh : M.2.2.2.2 ≠ []) (hlen : (lg_sl As).length ≤ M.2.2.1) (hls : lv_args 0 As = ls0) (body : Wx G M (xRm d mc ms) (xF G Q mc ms) 0 0 0 ls0 [] h) : MX G M d mc ms As h Q := by
  obtain ⟨y, cc, nL, ret, hh'⟩ := M
  obtain ⟨x0, r0, rfl⟩ : ∃ x0 r0, hh' = x0 :: r0 := by
    cases hh' with
    | nil => exact absurd rfl hh
    | cons a b => exact ⟨a, b, rfl⟩
  subst hls
  refine MetFree.of_bodyS (code := cc) (maxLocals := nL) (ret := ret) hy ?_ ?_
  · intro args s m h hn
    obtain ⟨m9, meth, c, hn9, h1, h2, h3, h4, -, h5, h6, -⟩ := Cond.codeWith_spec (atoms_spec (ws := [xCW (y, cc, nL, ret, x0 :: r0)]) h _ List.mem_cons_self)
    cases hn.symm.trans hn9
    exact ⟨meth, c, h1, h2, h3, h4, h5, h6⟩
  · intro p e s m args below meth c s₁ B hml hP _
    obtain ⟨rfl, hR, hK⟩ := hP
    have hh0 : s₁.heap = s.heap := by rw [B.state]; rfl
    have ht : c.exceptionTable.toList = tableOf (x0 :: r0) := vx_table (x := y) B (atoms_spec (ws := [xCW (y, cc, nL, ret, x0 :: r0)]) B.pre _ List.mem_cons_self)
    have hl := lv_entry (As.map (xv G)) (n := nL) (by rw [xsl_len]; exact hlen)
    rw [xargs] at hl
    have K := body p e s m (As.map (xv G)).toArray below meth c s.heap [] _ ⟨B.exec, B.bytes, hml, findClass_of_methodNamed B.named, B.returns, B.notSynchronized, (name_of_methodNamed B.named B.method).1, ht, hK⟩ hR (fun z h => by cases h) hl
    have K' : W p G.1 e (xRm d mc ms) s m (As.map (xv G)).toArray below meth c s.heap [] 0 0 (xF G Q mc ms below (As.map (xv G)).toArray s) (entryFrame m (As.map (xv G)).toArray nL) := by
      rw [lg_entry_eq]
      exact K
    obtain ⟨t, a1, o, b1, b2, b3⟩ := K' s₁ hh0 (Stand.of_body B)
    exact ⟨t, o, a1, b1, b2, b3⟩
/-- less is asked -/
theorem MX.weaken {G : xG} {M : xM} {d mc ms : Nat} {As : List Value} {h : xHp} {Q Q' : Option Value ⊕ Nat → xHp → Prop} (hM : MX G M d mc ms As h Q) (hq : ∀ o h', Q o h' → Q' o h') : MX G M d mc ms As h Q' := by
  intro p e h1 h2 h3 s m args below h4 h5 h6 h7
  obtain ⟨n, o, a1, a2, a3, L, h', b1, b2, b3, b4, b5⟩ := hM p e h1 h2 h3 s m args below h4 h5 h6 h7
  refine ⟨n, o, a1, a2, a3, L, h', b1, b2, b3, b4, ?_⟩
  rcases b5 with ⟨v, c1, c2⟩ | ⟨q, ci, fs, c1, c2, c3⟩
  · exact Or.inl ⟨v, c1, hq _ _ c2⟩
  · exact Or.inr ⟨q, ci, fs, c1, c2, hq _ _ c3⟩
theorem xCW_spec {M : xM} {a : Array Value} {U : State} {mk : MethodId} (hn : U.methodNamed? M.1 = some mk) (h : (xCW M).before a U = true) : ∃ methY cY, U.vm.method? mk = some methY ∧ methY.code = some cY ∧ cY.maxLocals = M.2.2.1 := by
  obtain ⟨y, cc, nL, ret, hh'⟩ := M
  cases hh' with
  | nil =>
    obtain ⟨methY, cY, h1, h2, -, h4, -⟩ := Cond.code_spec hn h
    exact ⟨methY, cY, h1, h2, h4⟩
  | cons x r =>
    obtain ⟨m9, meth, c, hn9, h1, h2, h3, h4, -⟩ := Cond.codeWith_spec h
    cases hn.symm.trans hn9
    exact ⟨meth, c, h1, h2, h4⟩
def xPost (G : xG) (Q : Option Value ⊕ Nat → xHp → Prop) (mc ms : Nat) : Pt → Array Value → Option Value → Pt → Prop := fun A _ v B =>
  ∃ (L : List Loc) (h' : xHp) (v' : Option Value), v = v'.map (xv G) ∧ Q (.inl v') h' ∧ xR G h' B.U.heap ∧ B.locs = A.locs ++ L ∧ (∀ z ∈ L, xB G ≤ z.base) ∧ B.cells = A.cells + mc ∧ B.slots = A.slots + ms
def xPostX (G : xG) (Q : Option Value ⊕ Nat → xHp → Prop) (mc ms : Nat) : Pt → Array Value → Addr → Pt → Prop := fun A _ q B =>
  ∃ (L : List Loc) (h' : xHp) (q' ci : Nat) (fs : List Value), q = xa G q' ∧ h'.1 q' = some (.inr (ci, fs)) ∧ Q (.inr q') h' ∧ xR G h' B.U.heap ∧ B.locs = A.locs ++ L ∧ (∀ z ∈ L, xB G ≤ z.base) ∧ B.cells = A.cells + mc ∧ B.slots = A.slots + ms
def xPre (G : xG) (R : Room) (mc ms : Nat) (As : List Value) (h : xHp) : Pt → Array Value → Prop := fun A a => A.cells + mc ≤ R.cells ∧ A.slots + ms ≤ R.slots ∧ xP G As h a A.U
section XK
variable {R : Room} {p : Program} {e : Env} {below : List Frame} {s : State} {sargs : Array Value} {len W9 : Nat}
theorem x_back {G : xG} {M : xM} {d mc ms : Nat} {As : List Value} {h : xHp} {Q : Option Value ⊕ Nat → xHp → Prop} (hM : MX G M d mc ms As h Q) (hframes : d + 1 ≤ R.frames) (hlocals : W9 + (M.2.2.1 + 11) + 100 * d ≤ R.locals) (hcw : xCW M ∈ lw_tbl) (hck : xok (xCW M) = true) (hin9 : Cond.initialized M.1.cls ∈ lw_tbl) :
    vx_Back G.1 R p e below s sargs M.1 len W9 (xPre G R mc ms As h) (xPost G Q mc ms) (xPostX G Q mc ms) := by
  intro m meth c A g ig mk a X hg hsize hdg hW hn hp
  obtain ⟨h4, h5, hp1, hp2, hp3⟩ := hp
  have h2 : (xCW M).before a A.U = true := hp3.2.1.use hcw hck a
  have h1 : (headSpec [xCW M] (xRm d mc ms)).pre.before a A.U = true := atoms_intro fun w hw => by
    rw [List.mem_singleton.mp hw]; exact h2
  have h3 : (Cond.initialized M.1.cls).before a A.U = true := hp3.2.1.use hin9 rfl a
  have hPc : xP G As h a (A.U.calling g mk a) := ⟨hp1, hp2, xK.moved (s := A.U) (State.WarmedH.refl A.U) hp3⟩
  obtain ⟨U, Ls, c0, s0⟩ := A
  dsimp only [Pt.U, Pt.locs, Pt.cells, Pt.slots] at h1 h2 h3 h4 h5 X hn hPc ⊢
  obtain ⟨methY, cY, hmY, hcY, hlY⟩ := xCW_spec hn h2
  obtain ⟨kY, hkY, -⟩ := className_of_methodNamed hn
  have hinitY : kY.init = .initialized := Cond.initialized_spec (findClass_of_methodNamed hn) hkY h3
  have hA : At U g.method c below := by rw [hg]; exact X.here
  have happ : (headSpec [xCW M] (xRm d mc ms)).appliesLoose M.1 e.platform (U.calling g mk a) = true :=
    Spec.appliesLoose_calling (g := g) hA hdg hn hkY hinitY
      (X.room_calling (g := g) (R' := (headSpec [xCW M] (xRm d mc ms)).room) hsize hmY hcY hframes (by rw [hlY]; show _ + (M.2.2.1 + 11) + 100 * d ≤ R.locals; omega) h4 h5) h1
  obtain ⟨mid, hmid⟩ := hA.above
  have hfr : (U.setTop g).frames = (.java g :: mid) ++ below := by rw [State.frames_setTop' g hA.top, hmid]; rfl
  obtain ⟨o, s₂, hsteps, -, hend, hq⟩ := Steps.callFree hM p X.admits X.cas X.clock (acts := []) hfr happ hPc trivial
  have hq' : xQ G Q mc ms (U.calling g mk a) o s₂ := hq
  rw [State.frames_setTop' g hA.top] at hend
  obtain ⟨g₀, hg0⟩ := Option.isSome_iff_exists.mp hA.top
  obtain ⟨r, hr⟩ := State.topJava?_eq_some.mp hg0
  have hr' : (({ U with heap := s₂.heap, slotsUsed := s₂.slotsUsed } : State).setVm s₂.vm).frames = .java g₀ :: r := hr
  obtain ⟨L, h', hW₂, hsm, hL, hR', hcase⟩ := hq'
  obtain ⟨e2, q2, q3, q4, q5, q6⟩ := id hsm
  have e3 : s₂ = ({ (U.calling g mk a).setFrames s₂.frames with heap := s₂.heap, slotsUsed := s₂.slotsUsed } : State).setVm s₂.vm := by
    have : s₂ = ({ s₂ with vm := (U.calling g mk a).vm } : State).setVm s₂.vm := rfl
    rw [e2] at this
    exact this
  have hW' : U.WarmedH s₂.vm := hW₂
  have hsame : U.sameButNew ({ U with heap := s₂.heap, slotsUsed := s₂.slotsUsed } : State) L mc ms := by
    refine ⟨?_, q2, q3, q4, q5, q6⟩
    obtain ⟨t, ht, -⟩ := State.frames_cons hr
    show ({ U with heap := s₂.heap, slotsUsed := s₂.slotsUsed } : State) = { U.setFrames U.frames with heap := s₂.heap, slotsUsed := s₂.slotsUsed }
    rw [State.setFrames_self ht]
  rcases hcase with ⟨v, rfl, hqv⟩ | ⟨q, ci, fs, rfl, hqc, hqv⟩
  · obtain ⟨c₂, i₂, len₂, hc₂, hd₂, hf₂⟩ := hend
    have hcc : c₂ = c := by
      have h1 : s₂.code? g.method = U.code? g.method := by
        rw [State.code?_eq, State.code?_eq, hW'.alike.method?]
      exact Option.some.inj (hc₂.symm.trans (h1.trans hA.code))
    subst hcc
    have hlen : len₂ = len := by rw [hdg] at hd₂; cases hd₂; rfl
    subst hlen
    have hs₂ : s₂ = (({ U with heap := s₂.heap, slotsUsed := s₂.slotsUsed } : State).setVm s₂.vm).setTop { g with pc := g.pc + len₂, stack := (v.map (xv G)).toList ++ g.stack } := by
      refine e3.trans ?_
      rw [hf₂, State.calling_eq hA.top, State.setFrames_setFrames, State.setTop_of_frames _ hr', hr]
      rfl
    subst hg
    refine Or.inl ⟨v.map (xv G), ⟨(({ U with heap := s₂.heap, slotsUsed := s₂.slotsUsed } : State).setVm s₂.vm), Ls ++ L, c0 + mc, s0 + ms⟩,
      ⟨X.admits, X.cas, X.clock, X.frames, X.room, X.hears, X.method, X.code, (X.here.setHeapUsed s₂.heap s₂.slotsUsed).setVm hW'.alike, X.tail, State.WarmedH.trans X.warmed hW', X.limits, X.bytes, X.same.trans (hsame.setVm s.vm)⟩,
      ⟨L, h', v, rfl, hqv, hR', rfl, hL, rfl, rfl⟩, ?_⟩
    show Steps p.tables e below _ ((({ U with heap := s₂.heap, slotsUsed := s₂.slotsUsed } : State).setVm s₂.vm).setTop { g with pc := g.pc + len₂, stack := (v.map (xv G)).toList ++ g.stack })
    rw [← hs₂]
    exact hsteps
  · have hf₂ : s₂.frames = .throwing (xa G q) :: .java g :: U.frames.tail := hend
    have hs₂ : s₂ = ((({ U with heap := s₂.heap, slotsUsed := s₂.slotsUsed } : State).setVm s₂.vm).setTop g).pushFrame (.throwing (xa G q)) := by
      refine e3.trans ?_
      rw [hf₂, State.calling_eq hA.top, State.setFrames_setFrames, State.pushFrame, State.frames_setTop _ hr', State.setTop_of_frames _ hr', State.setFrames_setFrames, hr]
      rfl
    subst hg
    refine Or.inr ⟨xa G q, ⟨(({ U with heap := s₂.heap, slotsUsed := s₂.slotsUsed } : State).setVm s₂.vm), Ls ++ L, c0 + mc, s0 + ms⟩,
      ⟨X.admits, X.cas, X.clock, X.frames, X.room, X.hears, X.method, X.code, (X.here.setHeapUsed s₂.heap s₂.slotsUsed).setVm hW'.alike, X.tail, State.WarmedH.trans X.warmed hW', X.limits, X.bytes, X.same.trans (hsame.setVm s.vm)⟩,
      ⟨L, h', q, ci, fs, rfl, hqc, hqv, hR', rfl, hL, rfl, rfl⟩, ?_⟩
    show Steps p.tables e below _ (((({ U with heap := s₂.heap, slotsUsed := s₂.slotsUsed } : State).setVm s₂.vm).setTop g).pushFrame (.throwing (xa G q)))
    rw [← hs₂]
    exact hsteps
theorem x_back0 {G : xG} {y : MethodName} {Pre : Pt → Array Value → Prop} {mc ms : Nat} {Q : Option Value ⊕ Nat → xHp → Prop} (hB : vx_Back G.1 R p e below s sargs y len W9 Pre (xPost G Q mc ms) (xPostX G Q mc ms)) (hno : ∀ q h', ¬ Q (.inr q) h') : Back G.1 R p e below s sargs y len W9 Pre (xPost G Q mc ms) := by
  intro m meth c A g ig mk a h1 h2 h3 h4 h5 h6 h7
  rcases hB m meth c A g ig mk a h1 h2 h3 h4 h5 h6 h7 with hx | ⟨q, B, -, ⟨L, h', q', ci, fs, -, -, hq, -⟩, -⟩
  · exact hx
  · exact absurd hq (hno q' h')
end XK
/-- the machine with the thing q thrown over the frame at pc -/
def WxT (G : xG) (M : xM) (R : Room) (F : List Frame → Array Value → State → State → Prop) (uc us pc : Nat) (ls : List (Nat × Value)) (st : List Value) (h : xHp) (q : Nat) : Prop :=
  ∀ (p : Program) (e : Env) (s : State) (m : MethodId) (args : Array Value) (below : List Frame) (meth : Method) (c : Code) (H : Heap) (locs : List Loc) (lsA : Array Slot), xC G M p s m meth c → xR G h H → (∀ z ∈ locs, xB G ≤ z.base) → lv_has lsA M.2.2.1 (xL G ls) →
    vx_W p G.1 e R s m args below meth c H locs uc us (F below args s) (F0 m pc lsA (st.map (xv G))) (xa G q)
/-- which method the entry i of own's pool names, for a receiver of class ci -/
def xLV (own : String) (i ci n : Nat) (Mc : xM) : Prop := ∃ r : vw_C, xCl[ci]? = some r ∧ Mc.2.2.2.2 = [] ∧ (Cond.methodLink own i Mc.1 ∈ lw_tbl ∨ ∃ host, Cond.methodLinkNest own i Mc.1 host ∈ lw_tbl) ∧ Cond.instanceMethod Mc.1 ∈ lw_tbl ∧ Cond.selects r.1 Mc.1 Mc.1 ∈ lw_tbl ∧ xCW Mc ∈ lw_tbl ∧ Cond.initialized Mc.1.cls ∈ lw_tbl ∧ (Mc.1.cls ≠ "java/lang/invoke/MethodHandle" ∧ Mc.1.cls ≠ "java/lang/invoke/VarHandle") ∧ (parseMethodDescriptor Mc.1.desc).map (fun d => d.parameters.length) = some n
def xLS (own : String) (i n : Nat) (Mc : xM) : Prop := Mc.2.2.2.2 = [] ∧ Cond.methodLink own i Mc.1 ∈ lw_tbl ∧ Cond.static Mc.1 ∈ lw_tbl ∧ xCW Mc ∈ lw_tbl ∧ Cond.initialized Mc.1.cls ∈ lw_tbl ∧ (Mc.1.cls ≠ "java/lang/invoke/MethodHandle" ∧ Mc.1.cls ≠ "java/lang/invoke/VarHandle") ∧ (parseMethodDescriptor Mc.1.desc).map (fun d => d.parameters.length) = some n
def xLI (own : String) (i n : Nat) (Mc : xM) : Prop := Mc.2.2.2.2 = [] ∧ Mc.2.2.2.1 = none ∧ Mc.1.name = "<init>" ∧ (Cond.methodLink own i Mc.1 ∈ lw_tbl ∨ ∃ host, Cond.methodLinkNest own i Mc.1 host ∈ lw_tbl) ∧ Cond.instanceMethod Mc.1 ∈ lw_tbl ∧ xCW Mc ∈ lw_tbl ∧ Cond.initialized Mc.1.cls ∈ lw_tbl ∧ (Mc.1.cls ≠ "java/lang/invoke/MethodHandle" ∧ Mc.1.cls ≠ "java/lang/invoke/VarHandle") ∧ (parseMethodDescriptor Mc.1.desc).map (fun d => d.parameters.length) = some n
theorem xCW_code {M : xM} (h : M.2.2.2.2 = []) : xCW M = .code M.1 M.2.1 M.2.2.1 M.2.2.2.1 := by
  unfold xCW; rw [h]
theorem xcode_ok {M : xM} (h : M.2.2.2.2 = []) : xok (xCW M) = true := by
  rw [xCW_code h]; rfl
theorem xret_map (G : xG) (v : Option Value) (st : List Value) : (v.toList ++ st).map (xv G) = (v.map (xv G)).toList ++ st.map (xv G) := by cases v <;> rfl
section XL
variable {G : xG} {M Mc : xM} {R : Room} {F : List Frame → Array Value → State → State → Prop} {uc us pc : Nat} {ls : List (Nat × Value)} {st stk : List Value} {h : xHp} {d mc ms n i : Nat} {As : List Value} {Q : Option Value ⊕ Nat → xHp → Prop}
theorem x_callV {ci a : Nat} {fs : List Value} (hw : xLV M.1.cls i ci n Mc) (hM : MX G Mc d mc ms (.ref a :: As) h Q) (hd : decode M.2.1 pc = .ok (.invokevirtual i, 3)) (hc : h.1 a = some (.inr (ci, fs))) (hn : As.length = n) (hstk : stk = As.reverse ++ .ref a :: st) (hst : (st.map fun v => v.category).sum ≤ 8) (hroom : d + 1 ≤ R.frames ∧ 8 + (Mc.2.2.1 + 11) + 100 * d ≤ R.locals) (hcs : uc + mc ≤ R.cells ∧ us + ms ≤ R.slots)
    (k : ∀ v h', Q (.inl v) h' → Wx G M R F (uc + mc) (us + ms) (pc + 3) ls (v.toList ++ st) h') (kx : ∀ q ci fs h', h'.1 q = some (.inr (ci, fs)) → Q (.inr q) h' → WxT G M R F (uc + mc) (us + ms) pc ls st h' q) : Wx G M R F uc us pc ls stk h := by
  intro p e s m args below meth c H locs lsA hC hR hL hl
  subst hstk
  obtain ⟨hx, hb, hml, hown, hr, hlo, hnme, htab, hK⟩ := id hC
  have hT := hK.2.1
  obtain ⟨r, hcl, hh, w1, w2, w3, w4, w5, w6, w7⟩ := hw
  obtain ⟨r', hr', cell, q1, q2, q3, -⟩ := (hR.2.2.2 a _ hc).2.2
  have hcls := (hK.1.1 ci r hcl).2.1
  have hcode : (Cond.code Mc.1 Mc.2.1 Mc.2.2.1 Mc.2.2.2.1).before args s = true := by
    have h9 := hT.use w4 (xcode_ok hh) args
    rw [xCW_code hh] at h9
    exact h9
  have hlenP : ∀ sig, parseMethodDescriptor Mc.1.desc = some sig → (As.map (xv G)).length = sig.parameters.length := by
    intro sig hs
    rw [hs] at w7
    rw [List.length_map, hn]
    exact (Option.some.inj w7).symm
  intro T hT9 X
  rcases x_vcall X hx (C := r.1) (bytes := Mc.2.1) (maxL := Mc.2.2.1) (ret := Mc.2.2.2.1) hown (w1.imp (fun z => hT.use z rfl args) (fun z => z.imp fun _ z => hT.use z rfl args)) (hT.use w2 rfl args) (hT.use w3 rfl args) hcode w6
    (x_back (W9 := 8) hM hroom.1 hroom.2 w4 (xcode_ok hh) w5) (b := xa G a) (cellB := cell) (by rw [hT9]; exact q1) (by rw [q3]; rfl) (by rw [q2]; exact hcls) (g := F0 m pc lsA ((As.reverse ++ .ref a :: st).map (xv G))) rfl (hl.1.trans hml.symm) (argsL := As.map (xv G)) (rest := st.map (xv G)) hlenP
    (by show (As.reverse ++ .ref a :: st).map (xv G) = _; rw [List.map_append, List.map_reverse]; rfl) (by show 2 * 0 + _ ≤ 8; rw [xcat_sum]; omega) (by rw [hb]; exact hd)
    (fun vm₁ hW₁ => ⟨hcs.1, hcs.2, rfl, by show xR G h (T.setVm vm₁).heap; rw [show (T.setVm vm₁).heap = H from hT9]; exact hR, xK.moved (U := T.setVm vm₁) hW₁ hK⟩) with
    ⟨v, vm₁, ⟨U', l2, c2, s2⟩, hW₁, X', ⟨L, h', v', rfl, hq, hR', e1, hL', e2, e3⟩, stp⟩ | ⟨q, vm₁, ⟨U', l2, c2, s2⟩, hW₁, X', ⟨L, h', q', ci', fs', rfl, hqc, hq, hR', e1, hL', e2, e3⟩, stp⟩
  · dsimp only [Pt.U, Pt.locs, Pt.cells, Pt.slots] at X' e1 e2 e3 stp hR'
    subst e1; subst e2; subst e3
    obtain ⟨t, a1, b1⟩ := k v' h' hq p e s m args below meth c U'.heap (locs ++ L) lsA hC hR' (fun z hz => (List.mem_append.mp hz).elim (hL z) (hL' z)) hl U' rfl X'
    refine ⟨t, stp t ?_, b1⟩
    rw [xret_map] at a1
    exact a1
  · dsimp only [Pt.U, Pt.locs, Pt.cells, Pt.slots] at X' e1 e2 e3 stp hR'
    subst e1; subst e2; subst e3
    obtain ⟨t, a1, b1⟩ := kx q' ci' fs' h' hqc hq p e s m args below meth c U'.heap (locs ++ L) lsA hC hR' (fun z hz => (List.mem_append.mp hz).elim (hL z) (hL' z)) hl U' rfl X'
    exact ⟨t, stp.trans a1, b1⟩
theorem x_callS (hw : xLS M.1.cls i n Mc) (hM : MX G Mc d mc ms As h Q) (hd : decode M.2.1 pc = .ok (.invokestatic i, 3)) (hn : As.length = n) (hstk : stk = As.reverse ++ st) (hst : (st.map fun v => v.category).sum ≤ 8) (hroom : d + 1 ≤ R.frames ∧ 8 + (Mc.2.2.1 + 11) + 100 * d ≤ R.locals) (hcs : uc + mc ≤ R.cells ∧ us + ms ≤ R.slots)
    (k : ∀ v h', Q (.inl v) h' → Wx G M R F (uc + mc) (us + ms) (pc + 3) ls (v.toList ++ st) h') (kx : ∀ q ci fs h', h'.1 q = some (.inr (ci, fs)) → Q (.inr q) h' → WxT G M R F (uc + mc) (us + ms) pc ls st h' q) : Wx G M R F uc us pc ls stk h := by
  intro p e s m args below meth c H locs lsA hC hR hL hl
  subst hstk
  obtain ⟨hx, hb, hml, hown, hr, hlo, hnme, htab, hK⟩ := id hC
  have hT := hK.2.1
  obtain ⟨hh, w1, w2, w4, w5, w6, w7⟩ := hw
  have hcode : (Cond.code Mc.1 Mc.2.1 Mc.2.2.1 Mc.2.2.2.1).before args s = true := by
    have h9 := hT.use w4 (xcode_ok hh) args
    rw [xCW_code hh] at h9
    exact h9
  have hlenP : ∀ sig, parseMethodDescriptor Mc.1.desc = some sig → (As.map (xv G)).length = sig.parameters.length := by
    intro sig hs
    rw [hs] at w7
    rw [List.length_map, hn]
    exact (Option.some.inj w7).symm
  intro T hT9 X
  rcases vx_callS X hx (bytes := Mc.2.1) (maxL := Mc.2.2.1) (ret := Mc.2.2.2.1) hown (hT.use w1 rfl args) (hT.use w2 rfl args) (hT.use w5 rfl args) hcode w6
    (x_back (W9 := 8) hM hroom.1 hroom.2 w4 (xcode_ok hh) w5) (g := F0 m pc lsA ((As.reverse ++ st).map (xv G))) rfl (hl.1.trans hml.symm) (argsL := As.map (xv G)) (rest := st.map (xv G)) hlenP
    (by show (As.reverse ++ st).map (xv G) = _; rw [List.map_append, List.map_reverse]) (by show 2 * 0 + _ ≤ 8; rw [xcat_sum]; omega) (by rw [hb]; exact hd)
    (fun vm₁ hW₁ => ⟨hcs.1, hcs.2, rfl, by show xR G h (T.setVm vm₁).heap; rw [show (T.setVm vm₁).heap = H from hT9]; exact hR, xK.moved (U := T.setVm vm₁) hW₁ hK⟩) with
    ⟨v, vm₁, ⟨U', l2, c2, s2⟩, hW₁, X', ⟨L, h', v', rfl, hq, hR', e1, hL', e2, e3⟩, stp⟩ | ⟨q, vm₁, ⟨U', l2, c2, s2⟩, hW₁, X', ⟨L, h', q', ci', fs', rfl, hqc, hq, hR', e1, hL', e2, e3⟩, stp⟩
  · dsimp only [Pt.U, Pt.locs, Pt.cells, Pt.slots] at X' e1 e2 e3 stp hR'
    subst e1; subst e2; subst e3
    obtain ⟨t, a1, b1⟩ := k v' h' hq p e s m args below meth c U'.heap (locs ++ L) lsA hC hR' (fun z hz => (List.mem_append.mp hz).elim (hL z) (hL' z)) hl U' rfl X'
    refine ⟨t, stp t ?_, b1⟩
    rw [xret_map] at a1
    exact a1
  · dsimp only [Pt.U, Pt.locs, Pt.cells, Pt.slots] at X' e1 e2 e3 stp hR'
    subst e1; subst e2; subst e3
    obtain ⟨t, a1, b1⟩ := kx q' ci' fs' h' hqc hq p e s m args below meth c U'.heap (locs ++ L) lsA hC hR' (fun z hz => (List.mem_append.mp hz).elim (hL z) (hL' z)) hl U' rfl X'
    exact ⟨t, stp.trans a1, b1⟩
theorem x_callI {a : Nat} (hw : xLI M.1.cls i n Mc) (hM : MX G Mc d mc ms (.ref a :: As) h Q) (hno : ∀ q h', ¬ Q (.inr q) h') (hd : decode M.2.1 pc = .ok (.invokespecial i, 3)) (hn : As.length = n) (hstk : stk = As.reverse ++ .ref a :: st) (hst : (st.map fun v => v.category).sum ≤ 8) (hroom : d + 1 ≤ R.frames ∧ 8 + (Mc.2.2.1 + 11) + 100 * d ≤ R.locals) (hcs : uc + mc ≤ R.cells ∧ us + ms ≤ R.slots)
    (k : ∀ v h', Q (.inl v) h' → Wx G M R F (uc + mc) (us + ms) (pc + 3) ls (v.toList ++ st) h') : Wx G M R F uc us pc ls stk h := by
  intro p e s m args below meth c H locs lsA hC hR hL hl
  subst hstk
  obtain ⟨hx, hb, hml, hown, hr, hlo, hnme, htab, hK⟩ := id hC
  have hT := hK.2.1
  obtain ⟨hh, hrn, hin1, w1, w2, w4, w5, w6, w7⟩ := hw
  have hcode : (Cond.code Mc.1 Mc.2.1 Mc.2.2.1 none).before args s = true := by
    have h9 := hT.use w4 (xcode_ok hh) args
    rw [xCW_code hh, hrn] at h9
    exact h9
  have hlenP : ∀ sig, parseMethodDescriptor Mc.1.desc = some sig → (As.map (xv G)).length = sig.parameters.length := by
    intro sig hs
    rw [hs] at w7
    rw [List.length_map, hn]
    exact (Option.some.inj w7).symm
  intro T hT9 X
  have hres : ∃ (v : Option Value) (vm₁ : Vm) (B : Pt), s.WarmedH vm₁ ∧ Stand p G.1 e R s m args below meth c B.U B.locs B.cells B.slots ∧ xPost G Q mc ms ⟨T.setVm vm₁, locs, uc, us⟩ (Value.ref (xa G a) :: As.map (xv G)).toArray v B ∧
      ∀ target, Steps p.tables e below (B.U.setTop { F0 m pc lsA ((As.reverse ++ .ref a :: st).map (xv G)) with pc := pc + 3, stack := v.toList ++ st.map (xv G) }) target → Steps p.tables e below (T.setTop (F0 m pc lsA ((As.reverse ++ .ref a :: st).map (xv G)))) target := by
    have hbk := x_back0 (x_back (R := R) (p := p) (e := e) (below := below) (s := s) (sargs := args) (len := 3) (W9 := 8) hM hroom.1 hroom.2 w4 (xcode_ok hh) w5) hno
    have hpre : ∀ vm₁, s.WarmedH vm₁ → xPre G R mc ms (.ref a :: As) h ⟨T.setVm vm₁, locs, uc, us⟩ (Value.ref (xa G a) :: As.map (xv G)).toArray := fun vm₁ hW₁ => ⟨hcs.1, hcs.2, rfl, by show xR G h (T.setVm vm₁).heap; rw [show (T.setVm vm₁).heap = H from hT9]; exact hR, xK.moved (U := T.setVm vm₁) hW₁ hK⟩
    rcases w1 with w1 | ⟨host, w1⟩
    · exact callI X hx (bytes := Mc.2.1) (maxL := Mc.2.2.1) hown hin1 (hT.use w1 rfl args) (hT.use w2 rfl args) hcode w6 hbk (g := F0 m pc lsA ((As.reverse ++ .ref a :: st).map (xv G))) rfl (hl.1.trans hml.symm) (a := xa G a) (argsL := As.map (xv G)) (rest := st.map (xv G)) hlenP
        (by show (As.reverse ++ .ref a :: st).map (xv G) = _; rw [List.map_append, List.map_reverse]; rfl) (by show 2 * 0 + _ ≤ 8; rw [xcat_sum]; omega) (by rw [hb]; exact hd) hpre
    · exact va_callIN X hx (bytes := Mc.2.1) (maxL := Mc.2.2.1) hown hin1 (hT.use w1 rfl args) (hT.use w2 rfl args) hcode w6 hbk (g := F0 m pc lsA ((As.reverse ++ .ref a :: st).map (xv G))) rfl (hl.1.trans hml.symm) (a := xa G a) (argsL := As.map (xv G)) (rest := st.map (xv G)) hlenP
        (by show (As.reverse ++ .ref a :: st).map (xv G) = _; rw [List.map_append, List.map_reverse]; rfl) (by show 2 * 0 + _ ≤ 8; rw [xcat_sum]; omega) (by rw [hb]; exact hd) hpre
  obtain ⟨v, vm₁, ⟨U', l2, c2, s2⟩, hW₁, X', ⟨L, h', v', rfl, hq, hR', e1, hL', e2, e3⟩, stp⟩ := hres
  dsimp only [Pt.U, Pt.locs, Pt.cells, Pt.slots] at X' e1 e2 e3 stp hR'
  subst e1; subst e2; subst e3
  obtain ⟨t, a1, b1⟩ := k v' h' hq p e s m args below meth c U'.heap (locs ++ L) lsA hC hR' (fun z hz => (List.mem_append.mp hz).elim (hL z) (hL' z)) hl U' rfl X'
  refine ⟨t, stp t ?_, b1⟩
  rw [xret_map] at a1
  exact a1
end XL
section XR
variable {G : xG} {M : xM} {R : Room} {uc us pc mc ms : Nat} {ls : List (Nat × Value)} {st : List Value} {h : xHp} {Q : Option Value ⊕ Nat → xHp → Prop}
theorem x_MQ {below : List Frame} {args : Array Value} {s t : State} (v : Option Value) (ht : MQ below (fun _ _ o t => o = .returned (v.map (xv G)) ∧ xR G h t.heap) args s mc ms (fun q => xB G ≤ q) t) (hq : Q (.inl v) h) : xF G Q mc ms below args s t := by
  obtain ⟨o, b1, b2, ⟨rfl, hR⟩, L, ⟨-, hW, hsm⟩, hL⟩ := ht
  exact ⟨_, b1, b2, L, h, hW, hsm, hL, hR, Or.inl ⟨v, rfl, hq⟩⟩
theorem x_iret {v : Int32} {ty : FieldType} (hd : decode M.2.1 pc = .ok (.ireturn, 1)) (hr9 : M.2.2.2.1 = some ty) (hn : narrow ty (.int v) = .int v) (hc : uc ≤ mc) (hs : us ≤ ms) (hq : Q (.inl (some (.int v))) h) : Wx G M R (xF G Q mc ms) uc us pc ls [.int v] h := by
  intro p e s m args below meth c H locs lsA hC hR hL hl
  obtain ⟨hx, hb, hml, hown, hr, hlo, hnme, htab, hK⟩ := id hC
  intro T hT X
  obtain ⟨t, a1, b1⟩ := W.widen hc hs (W.zret (Qc := fun _ _ o t => o = .returned (Option.map (xv G) (some (.int v))) ∧ xR G h t.heap) (free := fun q => xB G ≤ q) (ty := ty) hx hb (hr.trans hr9) hn (fun t ht _ => ⟨rfl, by rw [ht]; exact hR⟩) hL (ls := lsA) hd hlo) T hT X
  exact ⟨t, a1, x_MQ (some (.int v)) b1 hq⟩
theorem x_vret (hd : decode M.2.1 pc = .ok (.return_, 1)) (hr9 : M.2.2.2.1 = none) (hc : uc ≤ mc) (hs : us ≤ ms) (hq : Q (.inl none) h) : Wx G M R (xF G Q mc ms) uc us pc ls [] h := by
  intro p e s m args below meth c H locs lsA hC hR hL hl
  obtain ⟨hx, hb, hml, hown, hr, hlo, hnme, htab, hK⟩ := id hC
  intro T hT X
  obtain ⟨t, a1, b1⟩ := W.widen hc hs (W.vret (Qc := fun _ _ o t => o = .returned (Option.map (xv G) none) ∧ xR G h t.heap) (free := fun q => xB G ≤ q) hx hb (hr.trans hr9) (fun t ht _ => ⟨rfl, by rw [ht]; exact hR⟩) hL (ls := lsA) hd hlo) T hT X
  exact ⟨t, a1, x_MQ none b1 hq⟩
theorem x_aret {a : Nat} {C : String} (hd : decode M.2.1 pc = .ok (.areturn, 1)) (hr9 : M.2.2.2.1 = some (.object C)) (hc : uc ≤ mc) (hs : us ≤ ms) (hq : Q (.inl (some (.ref a))) h) : Wx G M R (xF G Q mc ms) uc us pc ls [.ref a] h := by
  intro p e s m args below meth c H locs lsA hC hR hL hl
  obtain ⟨hx, hb, hml, hown, hr, hlo, hnme, htab, hK⟩ := id hC
  intro T hT X
  obtain ⟨t, a1, b1⟩ := W.widen hc hs (W.aret (Qc := fun _ _ o t => o = .returned (Option.map (xv G) (some (.ref a))) ∧ xR G h t.heap) (free := fun q => xB G ≤ q) (v := .ref (xa G a)) hx hb (hr.trans hr9) (Or.inl ⟨C, rfl⟩) (Or.inr ⟨_, rfl⟩) (fun t ht _ => ⟨rfl, by rw [ht]; exact hR⟩) hL (ls := lsA) hd hlo) T hT X
  exact ⟨t, a1, x_MQ (some (.ref a)) b1 hq⟩
/-- not caught here -/
theorem x_out {q ci : Nat} {fs : List Value} (hout : ∀ x ∈ tableOf M.2.2.2.2, covers x pc = false) (hqc : h.1 q = some (.inr (ci, fs))) (hc : uc ≤ mc) (hs : us ≤ ms) (hq : Q (.inr q) h) : WxT G M R (xF G Q mc ms) uc us pc ls st h q := by
  intro p e s m args below meth c H locs lsA hC hR hL hl
  obtain ⟨hx, hb, hml, hown, hr, hlo, hnme, htab, hK⟩ := id hC
  intro T hT X
  obtain ⟨st1, hrun, hend, hW, hsm⟩ := X.leaveThrown (xa G q) (g := F0 m pc lsA (st.map (xv G))) rfl rfl rfl (by rw [htab]; exact hout) hlo
  exact ⟨_, st1, .threw (xa G q), hrun, hend, locs, h, hW, hsm.mono hc hs, hL, by show xR G h T.heap; rw [hT]; exact hR, Or.inr ⟨q, ci, fs, rfl, hqc, hq⟩⟩
theorem x_athrow {F : List Frame → Array Value → State → State → Prop} {q : Nat} (hd : decode M.2.1 pc = .ok (.athrow, 1)) (k : WxT G M R F uc us pc ls st h q) : Wx G M R F uc us pc ls (.ref q :: st) h := by
  intro p e s m args below meth c H locs lsA hC hR hL hl
  have k := k p e s m args below meth c H locs lsA hC hR hL hl
  obtain ⟨hx, hb, hml, hown, hr, hlo, hnme, htab, hK⟩ := id hC
  intro T hT X
  obtain ⟨t, a1, b1⟩ := k T hT X
  refine ⟨t, ?_, b1⟩
  have hdg : decode c.code (F0 m pc lsA ((.ref q :: st).map (xv G))).pc = .ok (.athrow, 1) := by rw [hb]; exact hd
  have hstack : (F0 m pc lsA ((.ref q :: st).map (xv G))).stack = .ref (xa G q) :: st.map (xv G) := rfl
  jvm_step X.here [hx, hdg, athrow.wp_sem, hstack]
  exact a1
end XR
