/-! a thing thrown, and caught by the one row of this method's table -/
theorem x_caught {G : xG} {M : xM} {R : Room} {F : List Frame → Array Value → State → State → Prop} {uc us pc : Nat} {ls : List (Nat × Value)} {st : List Value} {h : xHp} {q ci : Nat} {fs : List Value} {r : vw_C} {x : ExceptionTableEntry} (hh : tableOf M.2.2.2.2 = [x]) (hcov : covers x pc = true) (h0 : x.catchType ≠ 0) (hw : Cond.classLink M.1.cls x.catchType r.1 ∈ lw_tbl) (hcl : xCl[ci]? = some r) (hqc : h.1 q = some (.inr (ci, fs))) (kk : Wx G M R F uc us x.handlerPc ls [.ref q] h) : WxT G M R F uc us pc ls st h q := by
  intro p e s m args below meth c H locs lsA hC hR hL hl
  have kk := kk p e s m args below meth c H locs lsA hC hR hL hl
  obtain ⟨hx, hb, hml, hown, hr, hlo, hnme, htab, hK⟩ := id hC
  have hT := hK.2.1
  obtain ⟨r', hr', cell, q1, q2, q3, -⟩ := (hR.2.2.2 q _ hqc).2.2
  have hcls := (hK.1.1 ci r hcl).2.1
  intro T hT9 X
  have hpl : e.platform.magicAccessors = ({} : Platform).magicAccessors := by rw [X.admits.platform]
  have hasg := va_assign (hK.1.1 ci r hcl).2
  obtain ⟨c5, hc5, hcl5⟩ := Cond.classLink_spec hown (hT.use hw rfl args) e.platform hpl
  cases Option.some.inj (hcls.symm.trans hc5)
  obtain ⟨vm', X', st'⟩ := Stand.thenCaughtThrough X (xa G q) (g := F0 m pc lsA (st.map (xv G))) rfl (Steps.refl _) (by rw [hT9]; exact q1) (by rw [q3]; rfl) (by rw [q2]; obtain ⟨k9, h9, -⟩ := Vm.findClass_spec hcls; exact ⟨k9, h9⟩) [] x [] (by rw [htab, hh]; rfl)
    (fun z hz => by cases hz) hcov (Or.inr ⟨h0, _, hcl5, by rw [q2]; exact hasg⟩)
  obtain ⟨t, a1, b1⟩ := kk (T.setVm vm') hT9 X'
  exact ⟨t, st'.trans a1, b1⟩
