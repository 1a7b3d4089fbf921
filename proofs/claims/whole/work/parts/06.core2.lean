/-! fields, arrays, new things -/
def xCF (ci : Nat) (C : String) (T : u_T) (N : Nat) (ty0 : Nat → FieldType) : Prop := xCl[ci]? = some (C, T, N) ∧ (∀ w ∈ u_ws C T N, w ∈ lw_tbl) ∧ (∀ k, k < N → parseFieldDescriptor (T k).2.2.1 = some (ty0 k)) ∧ ∀ a, a < N → ∀ b, b < N → a ≠ b → (T a).2.1 ≠ (T b).2.1
/-- the field that the entry i of own's pool names: of class ci the field k -/
def xLF (own : String) (i ci k : Nat) (ty : FieldType) (fin : Bool) (dc : String) : Prop := ∃ (C : String) (T : u_T) (N : Nat) (ty0 : Nat → FieldType), xCF ci C T N ty0 ∧ k < N ∧ parseFieldDescriptor (T k).2.2.1 = some ty ∧ (T k).2.2.2 = fin ∧ (T k).1 = dc ∧ (Cond.fieldLink own i (T k).1 (T k).2.1 (T k).2.2.1 ∈ lw_tbl ∨ ∃ host, Cond.fieldLinkNest own i (T k).1 (T k).2.1 (T k).2.2.1 host ∈ lw_tbl)
theorem xlay_ok (C : String) (T : u_T) (k : Nat) : xok (u_lay C T k) = true := by
  unfold u_lay
  split <;> rfl
theorem xlays {s : State} {args : Array Value} {C : String} {T : u_T} {N : Nat} (h : xT s) (hin : ∀ w ∈ u_ws C T N, w ∈ lw_tbl) : ∀ w ∈ u_ws C T N, w.before args s = true := by
  intro w hw
  obtain ⟨k, -, rfl⟩ := List.mem_map.mp hw
  exact h.use (hin _ hw) (xlay_ok C T k) args
section XJ
variable {G : xG} {M : xM} {R : Room} {F : List Frame → Array Value → State → State → Prop} {uc us pc : Nat} {ls : List (Nat × Value)} {st : List Value} {h : xHp}
theorem x_get {i ci k a : Nat} {ty : FieldType} {fin : Bool} {dc : String} {fs : List Value} {v : Value} (hF : xLF M.1.cls i ci k ty fin dc) (hd : decode M.2.1 pc = .ok (.getfield i, 3)) (hc : h.1 a = some (.inr (ci, fs))) (hv : fs[k]? = some v) (kk : Wx G M R F uc us (pc + 3) ls (v :: st) h) : Wx G M R F uc us pc ls (.ref a :: st) h := by
  intro p e s m args below meth c H locs lsA hC hR hL hl
  have kk := kk p e s m args below meth c H locs lsA hC hR hL hl
  obtain ⟨C, T, N, ty0, ⟨hcl, hin, hty, hnm⟩, hk, hp, hfin, hdc, hlk⟩ := hF
  obtain ⟨hx, hb, hml, hown, hr, hlo, hnme, htab, hK, hT, hX, hB, hZ⟩ := hC
  obtain ⟨r, h1, cell, q1, q2, q3, q4⟩ := (hR.2.2.2 a _ hc).2.2
  have hr := Option.some.inj (h1.symm.trans hcl)
  subst hr
  obtain ⟨hS, hfc, kC, hkC, hkind⟩ := hK.1 ci _ hcl
  obtain ⟨cf, kf, fi, f, hi, hsl⟩ := hS k hk
  have hst := (u_facts hfc hkC (u_lays (xlays (args := args) hT hin) (fun w h => h) hk) hi).1
  have hval : cell.slots[f.slot]? = some (xv G v) := by
    rw [hsl, q4 k hk]
    simp [vp_V, hv]
  rcases hlk with hlk | ⟨host, hlk⟩
  · exact W.getf hx hb hown (hT.use hlk rfl args) hi hst q1 (by rw [q3]; exact fun h => by cases h) hval rfl rfl hd kk
  · exact va_Wgetf hx hb hown (hT.use hlk rfl args) hi hst q1 (by rw [q3]; exact fun h => by cases h) hval rfl rfl hd kk
theorem xv_map_set (fs : List Value) (k : Nat) (v : Value) : (fs.set k v).map (xv G) = (fs.map (xv G)).set k (xv G v) := by simp [List.map_set]
theorem x_put {i ci k a : Nat} {ty : FieldType} {dc : String} {fs : List Value} {v : Value} (fs' : List Value) (hF : xLF M.1.cls i ci k ty false dc) (hd : decode M.2.1 pc = .ok (.putfield i, 3)) (hc : h.1 a = some (.inr (ci, fs))) (hk1 : k < fs.length) (hn : narrow ty (xv G v) = xv G v) (hf : fits ty (xv G v) = true) (hfs : fs.set k v = fs') (kk : Wx G M R F uc us (pc + 3) ls st (xup h a (.inr (ci, fs')))) : Wx G M R F uc us pc ls (v :: .ref a :: st) h := by
  intro p e s m args below meth c H locs lsA hC hR hL hl
  have kk := fun H' locs' hR' hL' => kk p e s m args below meth c H' locs' lsA hC hR' hL' hl
  subst hfs
  obtain ⟨C, T, N, ty0, ⟨hcl, hin, hty, hnm⟩, hk, hp, hfin, hdc, hlk⟩ := hF
  obtain ⟨hx, hb, hml, hown, hr, hlo, hnme, htab, hK, hT, hX, hB, hZ⟩ := hC
  have hts := xlays (args := args) hT hin
  have hap := va_apart (own := C) hts (fun w h => h) ty0 hty hnm hK hcl
  obtain ⟨a1, a2, r, h1, cell, q1, q2, q3, q4⟩ := hR.2.2.2 a _ hc
  have hr := Option.some.inj (h1.symm.trans hcl)
  subst hr
  obtain ⟨hS, hfc, kC, hkC, hkind⟩ := hK.1 ci _ hcl
  obtain ⟨cf, kf, fi, f, hi, hsl⟩ := hS k hk
  have hlay := hts _ (u_in_lay hk)
  unfold u_lay at hlay
  rw [if_neg (by rw [hfin]; decide)] at hlay
  have hst := (u_facts hfc hkC (u_lays hts (fun w h => h) hk) hi).1
  have h6 := u_store hfc hkC hkind hlay hi hp hn hf
  have hfin : ∀ H' : Heap, H'[xa G a]? = some (cell.setSlot f.slot (xv G v)) → H'.size = H.size → (∀ q, q ≠ xa G a → H'[q]? = H[q]?) → W p G.1 e R s m args below meth c H' (locs ++ [⟨xa G a, f.slot⟩]) uc us (F below args s) (F0 m (pc + 3) lsA (st.map (xv G))) := by
    intro H' e1 e2 e3
    refine kk H' _ (hR.up hc e2 e3 ?_) (t_lc hL (by rw [xa_pos a1]; show xB G ≤ xB G + a - 1; omega))
    rw [hsl] at e1
    refine ⟨_, hcl, t_OB.to (V := updV (vp_V (fs.map (xv G))) k (xv G v)) ⟨_, e1, q2, q3, t_set q4 hap hk (xv G v)⟩ (fun j _ => ?_)⟩
    rw [vp_updV_set (by simpa using hk1), xv_map_set]
  rcases hlk with hlk | ⟨host, hlk⟩
  · exact W.putK hx hb (f := f) ⟨hown, hT.use hlk rfl args, ⟨_, _, _, hi⟩, hst⟩ (by rw [q2]; exact h6) q1 q3 (by rw [hsl]; exact k2_hasslot (q4 k hk)) rfl rfl hd hfin
  · exact va_WputK hx hb (f := f) hown (hT.use hlk rfl args) hi hst (by rw [q2]; exact h6) q1 q3 (by rw [hsl]; exact k2_hasslot (q4 k hk)) rfl rfl hd hfin
theorem x_putF {i ci k a : Nat} {ty : FieldType} {fs : List Value} {v : Value} (fs' : List Value) (hF : xLF M.1.cls i ci k ty true M.1.cls) (hini : M.1.name = "<init>") (hd : decode M.2.1 pc = .ok (.putfield i, 3)) (hc : h.1 a = some (.inr (ci, fs))) (hk1 : k < fs.length) (hn : narrow ty (xv G v) = xv G v) (hf : fits ty (xv G v) = true) (hfs : fs.set k v = fs') (kk : Wx G M R F uc us (pc + 3) ls st (xup h a (.inr (ci, fs')))) : Wx G M R F uc us pc ls (v :: .ref a :: st) h := by
  intro p e s m args below meth c H locs lsA hC hR hL hl
  have kk := fun H' locs' hR' hL' => kk p e s m args below meth c H' locs' lsA hC hR' hL' hl
  subst hfs
  obtain ⟨C, T, N, ty0, ⟨hcl, hin, hty, hnm⟩, hk, hp, hfin, hdc, hlk⟩ := hF
  obtain ⟨hx, hb, hml, hown, hr, hlo, hnme, htab, hK, hT, hX, hB, hZ⟩ := hC
  have hts := xlays (args := args) hT hin
  have hap := va_apart (own := C) hts (fun w h => h) ty0 hty hnm hK hcl
  obtain ⟨a1, a2, r, h1, cell, q1, q2, q3, q4⟩ := hR.2.2.2 a _ hc
  have hr := Option.some.inj (h1.symm.trans hcl)
  subst hr
  obtain ⟨hS, hfc, kC, hkC, hkind⟩ := hK.1 ci _ hcl
  obtain ⟨cf, kf, fi, f, hi, hsl⟩ := hS k hk
  have hlay := hts _ (u_in_lay hk)
  unfold u_lay at hlay
  rw [if_pos hfin] at hlay
  have hst := (u_facts hfc hkC (u_lays hts (fun w h => h) hk) hi).1
  have hcf : m.cls = cf := by
    obtain ⟨_, _, c', _, _, _, -, -, hf', -, -, -, hown2, -⟩ := Cond.laysFinal_spec hlay
    have e1 : c' = cf := by have := hi.symm.trans hf'; simp at this; exact this.1.symm
    rw [hdc] at hown2
    rw [← e1]; exact Option.some.inj (hown.symm.trans hown2)
  have h6 := u_fits hfc hkC hkind (Or.inr hlay) hi hp hn hf
  rcases hlk with hlk | ⟨host, hlk⟩
  · refine W.putFinK hx hb hown (hT.use hlk rfl args) hi hst hcf (hnme.trans hini) (by rw [q2]; exact h6) q1 q3 (by rw [hsl]; exact k2_hasslot (q4 k hk)) rfl rfl hd fun H' e1 e2 e3 => ?_
    refine kk H' _ (hR.up hc e2 e3 ?_) (t_lc hL (by rw [xa_pos a1]; show xB G ≤ xB G + a - 1; omega))
    rw [hsl] at e1
    refine ⟨_, hcl, t_OB.to (V := updV (vp_V (fs.map (xv G))) k (xv G v)) ⟨_, e1, q2, q3, t_set q4 hap hk (xv G v)⟩ (fun j _ => ?_)⟩
    rw [vp_updV_set (by simpa using hk1), xv_map_set]
  · refine va_Wputf hx hb hown (hT.use hlk rfl args) hi hst (Or.inr ⟨hcf, hnme.trans hini⟩) q1 (by rw [q3]; exact fun h => by cases h) (by rw [hsl]; exact k2_hasslot (q4 k hk)) h6.1 (by rw [q2, q3]; exact h6.2) rfl rfl hd ?_
    have ha : xa G a < H.size := (Array.getElem?_eq_some_iff.mp q1).1
    refine kk _ _ (hR.up hc (by simp) (fun q hq => by simp [Array.getElem?_setIfInBounds, Ne.symm hq]) ?_) (t_lc hL (by rw [xa_pos a1]; show xB G ≤ xB G + a - 1; omega))
    refine ⟨_, hcl, t_OB.to (V := updV (vp_V (fs.map (xv G))) k (xv G v)) ⟨cell.setSlot f.slot (xv G v), by simp [Array.getElem?_setIfInBounds, ha], q2, q3, by rw [hsl]; exact t_set q4 hap hk (xv G v)⟩ (fun j _ => ?_)⟩
    rw [vp_updV_set (by simpa using hk1), xv_map_set]
theorem x_alen {a t n : Nat} {x : (Nat → Int32) ⊕ (Nat → Int64) ⊕ (Nat → Option Nat)} (hc : h.1 a = some (.inl (t, n, x))) (ht : t < 7) (hd : decode M.2.1 pc = .ok (.arraylength, 1)) (kk : Wx G M R F uc us (pc + 1) ls (.int (nI n) :: st) h) : Wx G M R F uc us pc ls (.ref a :: st) h := by
  intro p e s m args below meth c H locs lsA hC hR hL hl
  have kk := kk p e s m args below meth c H locs lsA hC hR hL hl
  obtain ⟨hx, hb, hml, hown, hr, hlo, hnme, htab, hK, hT, hX, hB, hZ⟩ := hC
  have hat := (hR.2.2.2 a _ hc).2.2
  obtain ⟨ty, hty⟩ : ∃ ty, (xTys G)[t]? = some (xA G t, ty) := by
    match t, ht with
    | 0, _ => exact ⟨_, rfl⟩
    | 1, _ => exact ⟨_, rfl⟩
    | 2, _ => exact ⟨_, rfl⟩
    | 3, _ => exact ⟨_, rfl⟩
    | 4, _ => exact ⟨_, rfl⟩
    | 5, _ => exact ⟨_, rfl⟩
    | 6, _ => exact ⟨_, rfl⟩
  obtain f | f | f := x
  · exact W.alen (n := Int32.ofNat n) hx hb hat ((hK.2 t _ hty).1 n (fun j => .int (f j))) (by rw [vp_cell_i, arrV_size] <;> rfl) rfl rfl hd kk
  · exact W.alen (n := Int32.ofNat n) hx hb hat ((hK.2 t _ hty).1 n (fun j => .long (f j))) (by rw [vp_cell_l, arrV_size] <;> rfl) rfl rfl hd kk
  · exact W.alen (n := Int32.ofNat n) hx hb hat ((hK.2 t _ hty).1 n (fun j => va_rf ((f j).map (xa G)))) (by rw [vp_cell_q, arrV_size] <;> rfl) rfl rfl hd kk
theorem x_iald {a n : Nat} {f : Nat → Int32} {i : Int32} (hc : h.1 a = some (.inl (0, n, .inl f))) (hin : vp_in i n) (hd : decode M.2.1 pc = .ok (.iaload, 1)) (kk : Wx G M R F uc us (pc + 1) ls (.int (f i.toNatClampNeg) :: st) h) : Wx G M R F uc us pc ls (.int i :: .ref a :: st) h := by
  intro p e s m args below meth c H locs lsA hC hR hL hl
  have kk := kk p e s m args below meth c H locs lsA hC hR hL hl
  obtain ⟨hx, hb, hml, hown, hr, hlo, hnme, htab, hK, hT, hX, hB, hZ⟩ := hC
  have hlt : i.toNatClampNeg < n := Nat.not_le.mp fun q => hin (Or.inr q)
  exact W.iald (v := .int (f i.toNatClampNeg)) hx hb (hR.2.2.2 a _ hc).2.2 ((hK.2 0 _ rfl).1 n (fun j => .int (f j))) (fun q => by cases q) (by show ¬ (i < 0 ∨ (arrV _ _ _).slots.size ≤ _); rw [arrV_size]; exact hin) (by show (arrV _ _ _).slots[_]? = _; rw [arrV_read _ _ hlt]) rfl rfl hd kk
theorem x_bald {a n : Nat} {f : Nat → Int32} {i : Int32} (hc : h.1 a = some (.inl (2, n, .inl f))) (hin : vp_in i n) (hd : decode M.2.1 pc = .ok (.baload, 1)) (kk : Wx G M R F uc us (pc + 1) ls (.int (f i.toNatClampNeg) :: st) h) : Wx G M R F uc us pc ls (.int i :: .ref a :: st) h := by
  intro p e s m args below meth c H locs lsA hC hR hL hl
  have kk := kk p e s m args below meth c H locs lsA hC hR hL hl
  obtain ⟨hx, hb, hml, hown, hr, hlo, hnme, htab, hK, hT, hX, hB, hZ⟩ := hC
  have hlt : i.toNatClampNeg < n := Nat.not_le.mp fun q => hin (Or.inr q)
  exact W.bald (v := .int (f i.toNatClampNeg)) hx hb (hR.2.2.2 a _ hc).2.2 ((hK.2 2 _ rfl).1 n (fun j => .int (f j))) (fun q => by cases q) (by show ¬ (i < 0 ∨ (arrV _ _ _).slots.size ≤ _); rw [arrV_size]; exact hin) (by show (arrV _ _ _).slots[_]? = _; rw [arrV_read _ _ hlt]) rfl rfl hd kk
theorem x_zald {a n : Nat} {f : Nat → Int32} {i : Int32} (hc : h.1 a = some (.inl (3, n, .inl f))) (hin : vp_in i n) (hd : decode M.2.1 pc = .ok (.baload, 1)) (kk : Wx G M R F uc us (pc + 1) ls (.int (f i.toNatClampNeg) :: st) h) : Wx G M R F uc us pc ls (.int i :: .ref a :: st) h := by
  intro p e s m args below meth c H locs lsA hC hR hL hl
  have kk := kk p e s m args below meth c H locs lsA hC hR hL hl
  obtain ⟨hx, hb, hml, hown, hr, hlo, hnme, htab, hK, hT, hX, hB, hZ⟩ := hC
  have hlt : i.toNatClampNeg < n := Nat.not_le.mp fun q => hin (Or.inr q)
  exact W.zald (v := .int (f i.toNatClampNeg)) hx hb (hR.2.2.2 a _ hc).2.2 ((hK.2 3 _ rfl).1 n (fun j => .int (f j))) (fun q => by cases q) (by show ¬ (i < 0 ∨ (arrV _ _ _).slots.size ≤ _); rw [arrV_size]; exact hin) (by show (arrV _ _ _).slots[_]? = _; rw [arrV_read _ _ hlt]) rfl rfl hd kk
theorem x_lald {a n : Nat} {f : Nat → Int64} {i : Int32} (hc : h.1 a = some (.inl (1, n, .inr (.inl f)))) (hin : vp_in i n) (hd : decode M.2.1 pc = .ok (.laload, 1)) (kk : Wx G M R F uc us (pc + 1) ls (.long (f i.toNatClampNeg) :: st) h) : Wx G M R F uc us pc ls (.int i :: .ref a :: st) h := by
  intro p e s m args below meth c H locs lsA hC hR hL hl
  have kk := kk p e s m args below meth c H locs lsA hC hR hL hl
  obtain ⟨hx, hb, hml, hown, hr, hlo, hnme, htab, hK, hT, hX, hB, hZ⟩ := hC
  have hlt : i.toNatClampNeg < n := Nat.not_le.mp fun q => hin (Or.inr q)
  exact W.lald (v := .long (f i.toNatClampNeg)) hx hb (hR.2.2.2 a _ hc).2.2 ((hK.2 1 _ rfl).1 n (fun j => .long (f j))) (fun q => by cases q) (by show ¬ (i < 0 ∨ (arrV _ _ _).slots.size ≤ _); rw [arrV_size]; exact hin) (by show (arrV _ _ _).slots[_]? = _; rw [arrV_read _ _ hlt]) rfl rfl hd kk
theorem x_aald {a t n b : Nat} {C : String} {f : Nat → Option Nat} {i : Int32} (hc : h.1 a = some (.inl (t, n, .inr (.inr f)))) (ht : (xTys G)[t]? = some (xA G t, .object C)) (hin : vp_in i n) (hb9 : f i.toNatClampNeg = some b) (hd : decode M.2.1 pc = .ok (.aaload, 1)) (kk : Wx G M R F uc us (pc + 1) ls (.ref b :: st) h) : Wx G M R F uc us pc ls (.int i :: .ref a :: st) h := by
  intro p e s m args below meth c H locs lsA hC hR hL hl
  have kk := kk p e s m args below meth c H locs lsA hC hR hL hl
  obtain ⟨hx, hb, hml, hown, hr, hlo, hnme, htab, hK, hT, hX, hB, hZ⟩ := hC
  have hlt : i.toNatClampNeg < n := Nat.not_le.mp fun q => hin (Or.inr q)
  refine W.aald (v := .ref (xa G b)) (ty := .object C) hx hb (hR.2.2.2 a _ hc).2.2 ((hK.2 t _ ht).1 n (fun j => va_rf ((f j).map (xa G)))) rfl (fun q => by cases q) (by show ¬ (i < 0 ∨ (arrV _ _ _).slots.size ≤ _); rw [arrV_size]; exact hin) ?_ rfl rfl hd kk
  show (arrV _ _ _).slots[_]? = _
  rw [arrV_read _ _ hlt]
  show some (va_rf (Option.map (xa G) (f i.toNatClampNeg))) = _
  rw [hb9]
  rfl
theorem x_iast {a n : Nat} {f : Nat → Int32} {i x : Int32} (hc : h.1 a = some (.inl (0, n, .inl f))) (hin : vp_in i n) (hd : decode M.2.1 pc = .ok (.iastore, 1)) (kk : Wx G M R F uc us (pc + 1) ls st (xup h a (.inl (0, n, .inl (upd f i.toNatClampNeg x))))) : Wx G M R F uc us pc ls (.int x :: .int i :: .ref a :: st) h := by
  intro p e s m args below meth c H locs lsA hC hR hL hl
  have kk := fun H' locs' hR' hL' => kk p e s m args below meth c H' locs' lsA hC hR' hL' hl
  obtain ⟨hx, hb, hml, hown, hr, hlo, hnme, htab, hK, hT, hX, hB, hZ⟩ := hC
  obtain ⟨a1, a2, hat⟩ := hR.2.2.2 a _ hc
  refine W.iast hx hb hat ((hK.2 0 _ rfl).1 n (fun j => .int (f j))) (fun q => by cases q) (by show ¬ (i < 0 ∨ (arrV _ _ _).slots.size ≤ _); rw [arrV_size]; exact hin) rfl rfl hd fun H1 e1 z oq => ?_
  refine kk H1 _ (hR.up hc z oq ?_) (t_lc hL (by rw [xa_pos a1]; show xB G ≤ xB G + a - 1; omega))
  show H1[xa G a]? = some (vp_cell _ _)
  rw [e1]
  show some ((vp_cell _ _).setSlot _ _) = _
  rw [vp_cell_i, vp_cell_i, arrV_store]
  congr 2
  funext q
  by_cases hq : q = i.toNatClampNeg
  · subst hq
    simp [updV, upd]
  · simp [updV, upd, hq]
theorem x_bast {a n : Nat} {f : Nat → Int32} {i x : Int32} (hc : h.1 a = some (.inl (2, n, .inl f))) (hin : vp_in i n) (hd : decode M.2.1 pc = .ok (.bastore, 1)) (kk : Wx G M R F uc us (pc + 1) ls st (xup h a (.inl (2, n, .inl (upd f i.toNatClampNeg x.toInt8.toInt32))))) : Wx G M R F uc us pc ls (.int x :: .int i :: .ref a :: st) h := by
  intro p e s m args below meth c H locs lsA hC hR hL hl
  have kk := fun H' locs' hR' hL' => kk p e s m args below meth c H' locs' lsA hC hR' hL' hl
  obtain ⟨hx, hb, hml, hown, hr, hlo, hnme, htab, hK, hT, hX, hB, hZ⟩ := hC
  obtain ⟨a1, a2, hat⟩ := hR.2.2.2 a _ hc
  refine W.bast hx hb hat ((hK.2 2 _ rfl).1 n (fun j => .int (f j))) (fun q => by cases q) (by show ¬ (i < 0 ∨ (arrV _ _ _).slots.size ≤ _); rw [arrV_size]; exact hin) rfl rfl hd fun H1 e1 z oq => ?_
  refine kk H1 _ (hR.up hc z oq ?_) (t_lc hL (by rw [xa_pos a1]; show xB G ≤ xB G + a - 1; omega))
  show H1[xa G a]? = some (vp_cell _ _)
  rw [e1]
  show some ((vp_cell _ _).setSlot _ _) = _
  rw [vp_cell_i, vp_cell_i, arrV_store]
  congr 2
  funext q
  by_cases hq : q = i.toNatClampNeg
  · subst hq
    simp [updV, upd, narrow_byte]
  · simp [updV, upd, hq]
theorem x_zast {a n : Nat} {f : Nat → Int32} {i x : Int32} (hc : h.1 a = some (.inl (3, n, .inl f))) (hin : vp_in i n) (h01 : x = 0 ∨ x = 1) (hd : decode M.2.1 pc = .ok (.bastore, 1)) (kk : Wx G M R F uc us (pc + 1) ls st (xup h a (.inl (3, n, .inl (upd f i.toNatClampNeg x))))) : Wx G M R F uc us pc ls (.int x :: .int i :: .ref a :: st) h := by
  intro p e s m args below meth c H locs lsA hC hR hL hl
  have kk := fun H' locs' hR' hL' => kk p e s m args below meth c H' locs' lsA hC hR' hL' hl
  obtain ⟨hx, hb, hml, hown, hr, hlo, hnme, htab, hK, hT, hX, hB, hZ⟩ := hC
  obtain ⟨a1, a2, hat⟩ := hR.2.2.2 a _ hc
  have hnar : narrow .boolean (.int x) = .int x := by rcases h01 with rfl | rfl <;> rfl
  refine W.zast hx hb hat ((hK.2 3 _ rfl).1 n (fun j => .int (f j))) (fun q => by cases q) (by show ¬ (i < 0 ∨ (arrV _ _ _).slots.size ≤ _); rw [arrV_size]; exact hin) rfl rfl hd fun H1 e1 z oq => ?_
  refine kk H1 _ (hR.up hc z oq ?_) (t_lc hL (by rw [xa_pos a1]; show xB G ≤ xB G + a - 1; omega))
  show H1[xa G a]? = some (vp_cell _ _)
  rw [e1, hnar]
  show some ((vp_cell _ _).setSlot _ _) = _
  rw [vp_cell_i, vp_cell_i, arrV_store]
  congr 2
  funext q
  by_cases hq : q = i.toNatClampNeg
  · subst hq
    simp [updV, upd]
  · simp [updV, upd, hq]
theorem x_last {a n : Nat} {f : Nat → Int64} {i : Int32} {x : Int64} (hc : h.1 a = some (.inl (1, n, .inr (.inl f)))) (hin : vp_in i n) (hd : decode M.2.1 pc = .ok (.lastore, 1)) (kk : Wx G M R F uc us (pc + 1) ls st (xup h a (.inl (1, n, .inr (.inl (vp_updL f i.toNatClampNeg x)))))) : Wx G M R F uc us pc ls (.long x :: .int i :: .ref a :: st) h := by
  intro p e s m args below meth c H locs lsA hC hR hL hl
  have kk := fun H' locs' hR' hL' => kk p e s m args below meth c H' locs' lsA hC hR' hL' hl
  obtain ⟨hx, hb, hml, hown, hr, hlo, hnme, htab, hK, hT, hX, hB, hZ⟩ := hC
  obtain ⟨a1, a2, hat⟩ := hR.2.2.2 a _ hc
  refine W.last hx hb hat ((hK.2 1 _ rfl).1 n (fun j => .long (f j))) (fun q => by cases q) (by show ¬ (i < 0 ∨ (arrV _ _ _).slots.size ≤ _); rw [arrV_size]; exact hin) rfl rfl hd fun H1 e1 z oq => ?_
  refine kk H1 _ (hR.up hc z oq ?_) (t_lc hL (by rw [xa_pos a1]; show xB G ≤ xB G + a - 1; omega))
  show H1[xa G a]? = some (vp_cell _ _)
  rw [e1]
  show some ((vp_cell _ _).setSlot _ _) = _
  rw [vp_cell_l, vp_cell_l, arrV_store]
  congr 2
  funext q
  by_cases hq : q = i.toNatClampNeg
  · subst hq
    simp [updV, vp_updL]
  · simp [updV, vp_updL, hq]
theorem x_aast {a t n b ci : Nat} {r : vw_C} {vs : List Value} {f : Nat → Option Nat} {i : Int32} (hc : h.1 a = some (.inl (t, n, .inr (.inr f)))) (ht : (xTys G)[t]? = some (xA G t, .object r.1)) (hv : h.1 b = some (.inr (ci, vs))) (hcl : xCl[ci]? = some r) (hin : vp_in i n) (hd : decode M.2.1 pc = .ok (.aastore, 1)) (kk : Wx G M R F uc us (pc + 1) ls st (xup h a (.inl (t, n, .inr (.inr (va_up f i.toNatClampNeg (some b))))))) : Wx G M R F uc us pc ls (.ref b :: .int i :: .ref a :: st) h := by
  intro p e s m args below meth c H locs lsA hC hR hL hl
  have kk := fun H' locs' hR' hL' => kk p e s m args below meth c H' locs' lsA hC hR' hL' hl
  obtain ⟨hx, hb, hml, hown, hr, hlo, hnme, htab, hK, hT, hX, hB, hZ⟩ := hC
  obtain ⟨a1, a2, hat⟩ := hR.2.2.2 a _ hc
  have hlt : i.toNatClampNeg < n := Nat.not_le.mp fun q => hin (Or.inr q)
  have h0 : ¬ i < 0 := fun q => hin (Or.inl q)
  obtain ⟨r', hr', cellV, g1, g2, g3, -⟩ := (hR.2.2.2 b _ hv).2.2
  have hcls := (hK.1 ci r hcl).2
  obtain ⟨kA, comp, k1, k2, k3, -⟩ := (hK.2 t _ ht).2
  have hcomp : comp = (xD G).1 ci := Option.some.inj (k3.symm.trans hcls.1)
  subst hcomp
  obtain ⟨kC, hkC, -⟩ := hcls.2
  refine W.aast hx hb hat (fun q h => by cases h) (fun h => by cases h) k1 k2 rfl hkC ⟨h0, by show _ < (arrV _ _ _).slots.size; rw [arrV_size]; exact hlt⟩ g1 (fun q h => by rw [g3] at h; cases h) (by rw [g2]; exact hkC) (by rw [g2]; exact va_assign hcls) rfl rfl hd fun H1 e1 z oq => ?_
  refine kk H1 _ (hR.up hc z oq ?_) (t_lc hL (by rw [xa_pos a1]; show xB G ≤ xB G + a - 1; omega))
  show H1[xa G a]? = some (vp_cell _ _)
  rw [e1]
  show some ((vp_cell _ _).setSlot _ _) = _
  rw [vp_cell_q, vp_cell_q, arrV_store]
  congr 2
  funext q
  by_cases hq : q = i.toNatClampNeg
  · subst hq
    simp [updV, va_up, va_rf]
  · simp [updV, va_up, hq]
theorem x_newa {at9 : ArrayType} {t N : Nat} {n : Int32} {ty : FieldType} (c0 : (Nat → Int32) ⊕ (Nat → Int64) ⊕ (Nat → Option Nat)) (hty : newarray.typeOf at9 = ty) (hpr : ∀ C, ty ≠ .object C) (ht : (xTys G)[t]? = some (xA G t, ty)) (hw : Cond.arrayClass (newarray.typeOf at9) ∈ lw_tbl)
    (h0 : ∀ cA : ClassId, (match xE G (.inl (t, N, c0)) with | .inl q => vp_cell cA q.2 | .inr _ => vp_cell cA (0, .inl (fun _ => 0))) = arrV cA N (fun _ => defaultValue ty)) (hn : ¬ n < 0) (hN : n.toNatClampNeg = N) (hbytes : N * componentBytes ty ≤ 536870912) (hcells : uc + 1 ≤ R.cells) (hslots : us + N ≤ R.slots) (hd : decode M.2.1 pc = .ok (.newarray at9, 2))
    (kk : Wx G M R F (uc + 1) (us + N) (pc + 2) ls (.ref h.2 :: st) (xnw h (.inl (t, N, c0)))) : Wx G M R F uc us pc ls (.int n :: st) h := by
  intro p e s m args below meth c H locs lsA hC hR hL hl
  have kk := fun H' locs' hR' hL' => kk p e s m args below meth c H' locs' lsA hC hR' hL' hl
  obtain ⟨hx, hb, hml, hown, hr, hlo, hnme, htab, hK, hT, hX, hB, hZ⟩ := hC
  subst hty
  refine va_newaK hx hb (hT.use hw rfl args) rfl hd rfl hn hN hbytes hcells hslots rfl fun H1 cA e1 z1 o1 hAr hNm => ?_
  have hcA : cA = xA G t := by
    have h9 := (hK.2 t _ ht).2
    have h8 : s.vm.findClass ("[" ++ (newarray.typeOf at9).toString) = some (xA G t) := by
      cases at9 <;> exact h9
    exact Option.some.inj (hNm.symm.trans h8)
  subst hcA
  have e2 := hR.new_at
  show W p G.1 e R s m args below meth c H1 locs (uc + 1) (us + N) (F below args s) (F0 m (pc + 2) lsA (.ref H.size :: st.map (xv G)))
  rw [← e2]
  refine kk H1 locs (hR.nw z1 o1 ?_) hL
  have h3 := h0 (xA G t)
  obtain f | f | f := c0
  · show H1[H.size]? = some (vp_cell _ _)
    rw [e1]; exact congrArg some h3.symm
  · show H1[H.size]? = some (vp_cell _ _)
    rw [e1]; exact congrArg some h3.symm
  · show H1[H.size]? = some (vp_cell _ _)
    rw [e1]; exact congrArg some h3.symm
theorem x_newi {N : Nat} {n : Int32} (hw : Cond.arrayClass .int ∈ lw_tbl) (hn : ¬ n < 0) (hN : n.toNatClampNeg = N) (hbytes : N * 4 ≤ 536870912) (hcells : uc + 1 ≤ R.cells) (hslots : us + N ≤ R.slots) (hd : decode M.2.1 pc = .ok (.newarray .int, 2))
    (kk : Wx G M R F (uc + 1) (us + N) (pc + 2) ls (.ref h.2 :: st) (xnw h (.inl (0, N, .inl (fun _ => 0))))) : Wx G M R F uc us pc ls (.int n :: st) h :=
  x_newa (at9 := .int) (t := 0) (ty := .int) (.inl (fun _ => 0)) rfl (fun C q => by cases q) rfl hw (fun cA => rfl) hn hN hbytes hcells hslots hd kk
theorem x_newl {N : Nat} {n : Int32} (hw : Cond.arrayClass .long ∈ lw_tbl) (hn : ¬ n < 0) (hN : n.toNatClampNeg = N) (hbytes : N * 8 ≤ 536870912) (hcells : uc + 1 ≤ R.cells) (hslots : us + N ≤ R.slots) (hd : decode M.2.1 pc = .ok (.newarray .long, 2))
    (kk : Wx G M R F (uc + 1) (us + N) (pc + 2) ls (.ref h.2 :: st) (xnw h (.inl (1, N, .inr (.inl (fun _ => 0)))))) : Wx G M R F uc us pc ls (.int n :: st) h :=
  x_newa (at9 := .long) (t := 1) (ty := .long) (.inr (.inl (fun _ => 0))) rfl (fun C q => by cases q) rfl hw (fun cA => rfl) hn hN hbytes hcells hslots hd kk
theorem x_newb {N : Nat} {n : Int32} (hw : Cond.arrayClass .byte ∈ lw_tbl) (hn : ¬ n < 0) (hN : n.toNatClampNeg = N) (hbytes : N * 1 ≤ 536870912) (hcells : uc + 1 ≤ R.cells) (hslots : us + N ≤ R.slots) (hd : decode M.2.1 pc = .ok (.newarray .byte, 2))
    (kk : Wx G M R F (uc + 1) (us + N) (pc + 2) ls (.ref h.2 :: st) (xnw h (.inl (2, N, .inl (fun _ => 0))))) : Wx G M R F uc us pc ls (.int n :: st) h :=
  x_newa (at9 := .byte) (t := 2) (ty := .byte) (.inl (fun _ => 0)) rfl (fun C q => by cases q) rfl hw (fun cA => rfl) hn hN hbytes hcells hslots hd kk
theorem x_newz {N : Nat} {n : Int32} (hw : Cond.arrayClass .boolean ∈ lw_tbl) (hn : ¬ n < 0) (hN : n.toNatClampNeg = N) (hbytes : N * 1 ≤ 536870912) (hcells : uc + 1 ≤ R.cells) (hslots : us + N ≤ R.slots) (hd : decode M.2.1 pc = .ok (.newarray .boolean, 2))
    (kk : Wx G M R F (uc + 1) (us + N) (pc + 2) ls (.ref h.2 :: st) (xnw h (.inl (3, N, .inl (fun _ => 0))))) : Wx G M R F uc us pc ls (.int n :: st) h :=
  x_newa (at9 := .boolean) (t := 3) (ty := .boolean) (.inl (fun _ => 0)) rfl (fun C q => by cases q) rfl hw (fun cA => rfl) hn hN hbytes hcells hslots hd kk
theorem x_newq {i t N : Nat} {C : String} {n : Int32} (ht : (xTys G)[t]? = some (xA G t, .object C)) (hw : Cond.classLink M.1.cls i C ∈ lw_tbl) (hw2 : Cond.arrayOver (.object C) ∈ lw_tbl) (hn : ¬ n < 0) (hN : n.toNatClampNeg = N) (hbytes : N * 4 ≤ 536870912) (hcells : uc + 1 ≤ R.cells) (hslots : us + N ≤ R.slots) (hd : decode M.2.1 pc = .ok (.anewarray i, 3))
    (kk : Wx G M R F (uc + 1) (us + N) (pc + 3) ls (.ref h.2 :: st) (xnw h (.inl (t, N, .inr (.inr (fun _ => none)))))) : Wx G M R F uc us pc ls (.int n :: st) h := by
  intro p e s m args below meth c H locs lsA hC hR hL hl
  have kk := fun H' locs' hR' hL' => kk p e s m args below meth c H' locs' lsA hC hR' hL' hl
  obtain ⟨hx, hb, hml, hown, hr, hlo, hnme, htab, hK, hT, hX, hB, hZ⟩ := hC
  subst hN
  refine W.anew hx hb hown (hT.use hw rfl args) (hT.use hw2 rfl args) rfl hd rfl hn hbytes hcells hslots fun cA kA comp f1 f2 f3 f4 => ?_
  obtain ⟨kA', comp', g1, g2, g3, g4⟩ := (hK.2 t _ ht).2
  have hcA : cA = xA G t := Option.some.inj (f1.symm.trans g4)
  subst hcA
  have e2 := hR.new_at
  show W p G.1 e R s m args below meth c _ locs (uc + 1) (us + n.toNatClampNeg) (F below args s) (F0 m (pc + 3) lsA (.ref H.size :: st.map (xv G)))
  rw [← e2]
  refine kk _ locs (hR.nw (by rw [Array.size_push]) (fun q hq => by rw [Array.getElem?_push, if_neg (Nat.ne_of_lt hq)]) ?_) hL
  show _ = some (vp_cell _ _)
  rw [Array.getElem?_push_size, vp_cell_q, arrV_new]
  rfl
theorem xv_def (ty : FieldType) : xv G (defaultValue ty) = defaultValue ty := by cases ty <;> rfl
theorem x_new {i ci N : Nat} {C : String} {T : u_T} {ty0 : Nat → FieldType} (fs : List Value) (hF : xCF ci C T N ty0) (hw : Cond.classLink M.1.cls i C ∈ lw_tbl) (hw2 : Cond.instantiable C N ∈ lw_tbl) (hw3 : Cond.initialized C ∈ lw_tbl) (hfs : (List.range N).map (fun j => defaultValue (ty0 j)) = fs) (hcells : uc + 1 ≤ R.cells) (hslots : us + N ≤ R.slots) (hd : decode M.2.1 pc = .ok (.new i, 3))
    (kk : Wx G M R F (uc + 1) (us + N) (pc + 3) ls (.ref h.2 :: st) (xnw h (.inr (ci, fs)))) : Wx G M R F uc us pc ls st h := by
  intro p e s m args below meth c H locs lsA hC hR hL hl
  have kk := fun H' locs' hR' hL' => kk p e s m args below meth c H' locs' lsA hC hR' hL' hl
  obtain ⟨hcl, hin, hty, hnm⟩ := hF
  obtain ⟨hx, hb, hml, hown, hr, hlo, hnme, htab, hK, hT, hX, hB, hZ⟩ := hC
  have hKn := hK.1 ci _ hcl
  refine W.newcK hx hb hown (hT.use hw rfl args) (hT.use hw2 rfl args) (hT.use hw3 rfl args) rfl hd hcells hslots hKn.2.1 rfl fun H1 kC hkC e1 z1 o1 => ?_
  have e2 := hR.new_at
  show W p G.1 e R s m args below meth c H1 locs (uc + 1) (us + N) (F below args s) (F0 m (pc + 3) lsA (.ref H.size :: st.map (xv G)))
  rw [← e2]
  refine kk H1 locs (hR.nw z1 o1 ⟨_, hcl, (u_born ty0 (xlays (args := args) hT hin) (fun w h => h) hKn hkC e1 hty).to (fun k hk => ?_)⟩) hL
  subst hfs
  have hk' : k < N := hk
  simp [vp_V, hk', xv_def]
/-- the script -/
theorem x_sld {i : Int32} (hin : vp_in i (xLn G)) (hd : decode M.2.1 pc = .ok (.iaload, 1)) (kk : Wx G M R F uc us (pc + 1) ls (.int (xS G i.toNatClampNeg) :: st) h) : Wx G M R F uc us pc ls (.int i :: .ref 0 :: st) h := by
  intro p e s m args below meth c H locs lsA hC hR hL hl
  have kk := kk p e s m args below meth c H locs lsA hC hR hL hl
  obtain ⟨hx, hb, hml, hown, hr, hlo, hnme, htab, hK, hT, hX, hB, hZ⟩ := hC
  obtain ⟨scr, h1, h2, h3, h4, h5⟩ := hX
  have hlt : i.toNatClampNeg < xLn G := Nat.not_le.mp fun q => hin (Or.inr q)
  exact W.iald (v := .int (xS G i.toNatClampNeg)) hx hb (by show H[xb G]? = _; rw [hR.2.2.1 _ hB.1]; exact h1) h2 h3 (by rw [h4]; exact hin) (h5 _ hlt) rfl rfl hd kk
theorem x_slen (hd : decode M.2.1 pc = .ok (.arraylength, 1)) (kk : Wx G M R F uc us (pc + 1) ls (.int (nI (xLn G)) :: st) h) : Wx G M R F uc us pc ls (.ref 0 :: st) h := by
  intro p e s m args below meth c H locs lsA hC hR hL hl
  have kk := kk p e s m args below meth c H locs lsA hC hR hL hl
  obtain ⟨hx, hb, hml, hown, hr, hlo, hnme, htab, hK, hT, hX, hB, hZ⟩ := hC
  obtain ⟨scr, h1, h2, h3, h4, h5⟩ := hX
  exact W.alen (n := Int32.ofNat (xLn G)) hx hb (by show H[xb G]? = _; rw [hR.2.2.1 _ hB.1]; exact h1) h2 (by rw [h4] <;> rfl) rfl rfl hd kk
theorem x_widen {k n : Nat} (h1 : uc ≤ k) (h2 : us ≤ n) (kk : Wx G M R F k n pc ls st h) : Wx G M R F uc us pc ls st h := fun p e s m args below meth c H locs lsA hC hR hL hl => W.widen h1 h2 (kk p e s m args below meth c H locs lsA hC hR hL hl)
/-- Object.<init> -/
theorem x_objInit {i a : Nat} (hw : Cond.methodLink M.1.cls i objectInit ∈ lw_tbl) (hw2 : Cond.instanceMethod objectInit ∈ lw_tbl) (hw3 : Cond.code objectInit ⟨#[0xb1]⟩ 1 none ∈ lw_tbl) (hd : decode M.2.1 pc = .ok (.invokespecial i, 3)) (hf : 1 ≤ R.frames) (hlc : (st.map fun v => v.category).sum + 12 ≤ R.locals) (kk : Wx G M R F uc us (pc + 3) ls st h) : Wx G M R F uc us pc ls (.ref a :: st) h := by
  intro p e s m args below meth c H locs lsA hC hR hL hl
  have kk := kk p e s m args below meth c H locs lsA hC hR hL hl
  obtain ⟨hx, hb, hml, hown, hr, hlo, hnme, htab, hK, hT, hX, hB, hZ⟩ := hC
  refine W.objInit hx hb hown (hT.use hw rfl args) (hT.use hw2 rfl args) (hT.use hw3 rfl args) rfl (by rw [hml]; exact hl.1) rfl hd hf ?_ kk
  have e9 : ((st.map (xv G)).map fun v => v.category) = st.map fun v => v.category := by
    rw [List.map_map]
    exact List.map_congr_left (fun v _ => xv_cat G v)
  show 2 * 0 + ((st.map (xv G)).map fun v => v.category).sum + 12 ≤ R.locals
  rw [e9]; omega
/-- Math.max -/
theorem x_max {i : Nat} {x y : Int32} (hw : Cond.methodLink M.1.cls i Lib.Math.max.name ∈ lw_tbl) (hw2 : Cond.static Lib.Math.max.name ∈ lw_tbl) (hw3 : Cond.initialized "java/lang/Math" ∈ lw_tbl) (hw4 : Cond.code Lib.Math.max.name Lib.Math.max.code 2 (some .int) ∈ lw_tbl) (hd : decode M.2.1 pc = .ok (.invokestatic i, 3)) (hf : 1 ≤ R.frames) (hlc : (st.map fun v => v.category).sum + 13 ≤ R.locals) (hcs : uc ≤ R.cells ∧ us ≤ R.slots) (kk : Wx G M R F uc us (pc + 3) ls (.int (if x < y then y else x) :: st) h) : Wx G M R F uc us pc ls (.int y :: .int x :: st) h := by
  intro p e s m args below meth c H locs lsA hC hR hL hl
  have kk := kk p e s m args below meth c H locs lsA hC hR hL hl
  obtain ⟨hx, hb, hml, hown, hr, hlo, hnme, htab, hK, hT, hX, hB, hZ⟩ := hC
  refine va_mmax hx hb (hml.trans hl.1.symm) hown (hT.use hw rfl args) (hT.use hw2 rfl args) (hT.use hw3 rfl args) (hT.use hw4 rfl args) hf ?_ hcs.1 hcs.2 hd kk
  have e9 : ((st.map (xv G)).map fun v => v.category) = st.map fun v => v.category := by
    rw [List.map_map]
    exact List.map_congr_left (fun v _ => xv_cat G v)
  rw [e9]; exact hlc
end XJ
