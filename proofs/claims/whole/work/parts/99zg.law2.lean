/-! THE CLAIM OUT OF ONE WALK OF THE LAW'S BODY. Your part is whole_start (and what it stands on); all else here is the same for every law, but numbers. -/
def R_law : String := "RuleCourtLaw"
def lw_P (b : Addr) (xs : List Int32) (args : Array Value) (s : State) : Prop := args = #[.ref b] ∧ s.IntsAt b xs ∧ xs.length ≤ 3072 ∧ (Jvm.Cond.and given_1 narrow_1).before args s = true
def lw_Q (_ : Array Value) (s : State) (o : Outcome) (t : State) : Prop := o = .returned (some (.int 1)) ∧ Framed s o t [] 601024 7293034
def lw_Z (below : List Frame) (a : Array Value) (s : State) : State → Prop := fun t => ∃ o, t.status = .running ∧ Ended t below o ∧ lw_Q a s o t
/-- the law's own end, with 1 on the stack, nothing written that was there before, its room as the claim has it -/
theorem lw_ret {p : Program} {l : Launch} {e : Env} {s : State} {m : MethodId} {below : List Frame} {meth : Method} {c : Code} {args : Array Value} (hx : p.tables.exec = Jvm.exec) (hb : c.code = code) (hr : meth.sig.returnType = ret) (hlocks : meth.locks = false) {pc : Nat} {H : Heap} {ls : Array Slot} (hdg : decode code pc = .ok (.ireturn, 1)) : W p l e room_1 s m args below meth c H [] 601024 7293034 (lw_Z below args s) (F0 m pc ls [.int 1]) := by
  intro T hT X
  obtain ⟨fs, hret, hrun, hended, hW, hframe⟩ := X.leave (v := some (.int 1)) (hlocks := hlocks) (fun h => by rw [hr] at h; cases h)
  have hmeth' : T.vm.method? m = some meth := X.method'
  refine ⟨T.setFrames fs, ?_, .returned (some (.int 1)), hrun, hended, rfl, ⟨_, rfl⟩, hW, hframe⟩
  jvm_step X.here [X.here.top, hx, hb, hdg, hmeth', hr, ret, narrow_b1]
  (try refine ⟨rfl, ?_⟩); (try refine ⟨rfl, ?_⟩)
  first | (intro acts; rw [hret _ acts rfl rfl rfl]) | rw [hret _ _ rfl rfl rfl]
  exact Steps.refl _
abbrev mL_law : xM := (x, code, 7, ret, [])
/-- the law's end, from a start with the heap that G tells -/
def lawF (G : xG) : List Frame → Array Value → State → State → Prop := fun below args s t => s.heap.size = xB G → lw_Z below args s t
theorem x_lawEnd {G : xG} {uc us pc : Nat} {ls : List (Nat × Value)} {h : xHp} (hd : decode code pc = .ok (.ireturn, 1)) (hc : uc ≤ 601024) (hs : us ≤ 7293034) : Wx G mL_law room_1 (lawF G) uc us pc ls [.int 1] h := by
  intro p e s m args below meth c H locs lsA hC hR hL hl
  by_cases z : s.heap.size = xB G
  · have K : W p G.1 e room_1 s m args below meth c H [] 601024 7293034 (lw_Z below args s) (F0 m pc lsA [.int 1]) := lw_ret hC.1 hC.2.1 hC.2.2.2.2.1 hC.2.2.2.2.2.1 hd
    refine va_forget (fun q hq => by rw [z]; exact hL q hq) ?_
    refine W.widen (k := 601024) (n := 7293034) hc hs ?_
    intro T hT X
    obtain ⟨t, a, b⟩ := K T hT X
    exact ⟨t, a, fun _ => b⟩
  · intro T hT X
    exact ⟨_, Steps.refl _, fun q => absurd q z⟩
