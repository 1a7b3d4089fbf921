/-! System.arraycopy of ints -/
theorem x_copyi {G : xG} {M : xM} {R : Room} {F : List Frame → Array Value → State → State → Prop} {uc us pc : Nat} {ls : List (Nat × Value)} {st : List Value} {h : xHp} {i a0 a1 n0 n1 : Nat} {f g : Nat → Int32} {sp dp n : Int32} (sp' dp' n' : Nat) (hw : Cond.methodLink M.1.cls i arraycopyName ∈ lw_tbl) (hw2 : Cond.native arraycopyName ∈ lw_tbl) (hw3 : Cond.static arraycopyName ∈ lw_tbl) (hw4 : Cond.initialized "java/lang/System" ∈ lw_tbl)
    (hc0 : h.1 a0 = some (.inl (0, n0, .inl f))) (hc1 : h.1 a1 = some (.inl (0, n1, .inl g))) (e1 : sp = nI sp') (e2 : dp = nI dp') (e3 : n = nI n') (b1 : sp' < 2 ^ 31) (b2 : dp' < 2 ^ 31) (b3 : n' < 2 ^ 31) (h4 : sp' + n' ≤ n0) (h5 : dp' + n' ≤ n1) (hf : 1 ≤ R.frames) (hlc : (st.map fun v => v.category).sum + (nativeFrameWords "java/lang/System" "arraycopy" 5 + 11) ≤ R.locals) (hd : decode M.2.1 pc = .ok (.invokestatic i, 3))
    (kk : Wx G M R F uc us (pc + 3) ls st (xup h a1 (.inl (0, n1, .inl (va_cpy f g sp' dp' n'))))) : Wx G M R F uc us pc ls (.int n :: .int dp :: .ref a1 :: .int sp :: .ref a0 :: st) h := by
  intro p e s m args below meth c H locs lsA hC hR hL hl
  have kk := fun H' locs' hR' hL' => kk p e s m args below meth c H' locs' lsA hC hR' hL' hl
  obtain ⟨hx, hb, hml, hown, hr, hlo, hnme, htab, hK, hT, hX, hB, hZ⟩ := hC
  have k1 : sp.toNatClampNeg = sp' := by rw [e1]; exact nI_clamp b1
  have k2 : dp.toNatClampNeg = dp' := by rw [e2]; exact nI_clamp b2
  have k3 : n.toNatClampNeg = n' := by rw [e3]; exact nI_clamp b3
  have p1 : ¬ sp < 0 := by rw [e1]; exact nI_pos b1
  have p2 : ¬ dp < 0 := by rw [e2]; exact nI_pos b2
  have p3 : ¬ n < 0 := by rw [e3]; exact nI_pos b3
  have i1 : sp.toInt = (sp' : Int) := by rw [e1]; exact nI_toInt b1
  have i2 : dp.toInt = (dp' : Int) := by rw [e2]; exact nI_toInt b2
  have i3 : n.toInt = (n' : Int) := by rw [e3]; exact nI_toInt b3
  obtain ⟨q1, q2, hat0⟩ := hR.2.2.2 a0 _ hc0
  obtain ⟨r1, r2, hat1⟩ := hR.2.2.2 a1 _ hc1
  have hat0 : H[xa G a0]? = some (vp_cell (xA G 0) (n0, .inl f)) := hat0
  have hat1 : H[xa G a1]? = some (vp_cell (xA G 0) (n1, .inl g)) := hat1
  intro T hT9 X
  obtain ⟨-, k0, hk0, cm0, hkk0⟩ := (hK.2 0 _ rfl).1 n0 (fun j => .int (f j))
  obtain ⟨-, k9, hk9, cm9, hkk9⟩ := (hK.2 0 _ rfl).1 n1 (fun j => .int (g j))
  obtain ⟨vm', X', step⟩ := X.arraycopy hx hown (hT.use hw rfl args) (hT.use hw2 rfl args) (hT.use hw3 rfl args) (hT.use hw4 rfl args) (src := xa G a0) (dst := xa G a1) (cs := vp_cell (xA G 0) (n0, .inl f)) (cd := vp_cell (xA G 0) (n1, .inl g)) (srcPos := sp) (destPos := dp) (n := n) (by rw [hT9]; exact hat0) (by rw [hT9]; exact hat1)
    (fun _ h => by cases h) (fun _ h => by cases h) (fun h => by cases h) (fun h => by cases h) hk0 hk9 hkk0 hkk9 (by simp [refKind]) p1 p2 p3
    (by rw [i1, i3]; show ¬ _ > ((arrV _ n0 (fun j => .int (f j))).slots.size : Int); rw [arrV_size]; omega)
    (by rw [i2, i3]; show ¬ _ > ((arrV _ n1 (fun j => .int (g j))).slots.size : Int); rw [arrV_size]; omega)
    (fun vm₁ _ j hj => by
      have e : (vp_cell (xA G 0) (n0, .inl f)).slots.getD (sp.toNatClampNeg + j) .null = .int (f (sp.toNatClampNeg + j)) := by
        show (arrV _ n0 (fun j => .int (f j))).slots.getD _ _ = _
        rw [Array.getD_eq_getD_getElem?, arrV_read _ _ (by omega)]
        rfl
      refine ⟨?_, ?_⟩
      · rw [e]; rfl
      · rw [e]; exact trivial)
    (g := F0 m pc lsA ((.int n :: .int dp :: .ref a1 :: .int sp :: .ref a0 :: st).map (xv G))) rfl (hl.1.trans hml.symm) (rest := st.map (xv G)) rfl (by rw [hb]; exact hd) hf (by show 2 * 0 + _ + _ ≤ _; rw [xcat_sum]; omega)
  have e1' : copied (vp_cell (xA G 0) (n0, .inl f)) (vp_cell (xA G 0) (n1, .inl g)) sp dp n = vp_cell (xA G 0) (n1, .inl (va_cpy f g sp' dp' n')) := by
    have h9 := va_copied (fun z => Value.int z) (xA G 0) (xA G 0) (n0 := n0) (n1 := n1) (sp := sp') (dp := dp') (n := n') f g h4
    rw [← k1, ← k2, ← k3] at h9 ⊢
    exact h9
  rw [e1'] at X' step
  have hlt : xa G a1 < H.size := (Array.getElem?_eq_some_iff.mp hat1).1
  obtain ⟨t, a2, b2⟩ := kk (H.setIfInBounds (xa G a1) (vp_cell (xA G 0) (n1, .inl (va_cpy f g sp' dp' n')))) _ (hR.up hc1 (by simp) (fun q hq => by simp [Array.getElem?_setIfInBounds, Ne.symm hq]) (by show _ = some _; simp [Array.getElem?_setIfInBounds, hlt])) (fun z hz => by
      rcases List.mem_append.mp hz with h | h
      · exact hL z h
      · obtain ⟨z', -, hz'⟩ := List.mem_map.mp h
        rw [← hz']
        show xB G ≤ xa G a1
        rw [xa_pos r1]; omega) _ (by rw [← hT9]; rfl) X'
  exact ⟨t, step t a2, b2⟩
