/-! an abstract heap: cells by their number (0 is the script, 1 the first cell that the law makes), and the next number -/
abbrev xCel : Type := (Nat × Nat × ((Nat → Int32) ⊕ (Nat → Int64) ⊕ (Nat → Option Nat))) ⊕ (Nat × List Value)
abbrev xHp : Type := (Nat → Option xCel) × Nat
/-- launch; first new address, heap at the law's entry; class numbers; array class numbers; the script's address, length, ints -/
abbrev xG : Type := Launch × Nat × Heap × va_G × (Nat → ClassId) × Nat × Nat × (Nat → Int32)
abbrev xB (G : xG) : Nat := G.2.1
abbrev xH0 (G : xG) : Heap := G.2.2.1
abbrev xD (G : xG) : va_G := G.2.2.2.1
abbrev xA (G : xG) : Nat → ClassId := G.2.2.2.2.1
abbrev xb (G : xG) : Nat := G.2.2.2.2.2.1
abbrev xLn (G : xG) : Nat := G.2.2.2.2.2.2.1
abbrev xS (G : xG) : Nat → Int32 := G.2.2.2.2.2.2.2
abbrev xCl : List vw_C := vwCl ++ [("java/util/NoSuchElementException", TJ7, 0)]
abbrev xTys (G : xG) : List (ClassId × FieldType) := [(xA G 0, .int), (xA G 1, .long), (xA G 2, .byte), (xA G 3, .boolean), (xA G 4, .object RX8), (xA G 5, .object RX9), (xA G 6, .object RX12)]
def xa (G : xG) (a : Nat) : Nat := if a = 0 then xb G else xB G + a - 1
def xv (G : xG) (v : Value) : Value := match v with
  | .ref a => .ref (xa G a)
  | .retAddr n => .ref n
  | w => w
def xE (G : xG) (c : xCel) : va_E := match c with
  | .inl (t, n, .inl f) => .inl (xA G t, n, .inl f)
  | .inl (t, n, .inr (.inl f)) => .inl (xA G t, n, .inr (.inl f))
  | .inl (t, n, .inr (.inr f)) => .inl (xA G t, n, .inr (.inr (.inr (.inr (fun j => (f j).map (xa G))))))
  | .inr (ci, fs) => .inr (ci, fs.map (xv G))
/-- the real heap holds the abstract one -/
def xR (G : xG) (h : xHp) (H : Heap) : Prop := 1 ≤ h.2 ∧ H.size + 1 = xB G + h.2 ∧ (∀ q, q < xB G → H[q]? = (xH0 G)[q]?) ∧ ∀ a c, h.1 a = some c → 1 ≤ a ∧ a < h.2 ∧ va_at (xD G) xCl (xa G a, xE G c) H
def xup (h : xHp) (a : Nat) (c : xCel) : xHp := (va_up h.1 a (some c), h.2)
def xnw (h : xHp) (c : xCel) : xHp := (va_up h.1 h.2 (some c), h.2 + 1)
theorem xup_self (h : xHp) (a : Nat) (c : xCel) : (xup h a c).1 a = some c := by simp [xup, va_up]
theorem xup_ne {h : xHp} {a b : Nat} {c : xCel} (hn : b ≠ a) : (xup h a c).1 b = h.1 b := by simp [xup, va_up, hn]
theorem xup_2 (h : xHp) (a : Nat) (c : xCel) : (xup h a c).2 = h.2 := rfl
theorem xnw_self (h : xHp) (c : xCel) : (xnw h c).1 h.2 = some c := by simp [xnw, va_up]
theorem xnw_ne {h : xHp} {b : Nat} {c : xCel} (hn : b ≠ h.2) : (xnw h c).1 b = h.1 b := by simp [xnw, va_up, hn]
theorem xnw_2 (h : xHp) (c : xCel) : (xnw h c).2 = h.2 + 1 := rfl
theorem xa_pos {G : xG} {a : Nat} (h : 1 ≤ a) : xa G a = xB G + a - 1 := by
  unfold xa; rw [if_neg (by omega)]
theorem xR.up {G : xG} {h : xHp} {H H' : Heap} {a : Nat} {c0 c : xCel} (hR : xR G h H) (h0 : h.1 a = some c0) (z : H'.size = H.size) (o : ∀ q, q ≠ xa G a → H'[q]? = H[q]?) (hc : va_at (xD G) xCl (xa G a, xE G c) H') : xR G (xup h a c) H' := by
  obtain ⟨h1, h2, h3, h4⟩ := hR
  obtain ⟨p1, p2, -⟩ := h4 a c0 h0
  have ea := xa_pos (G := G) p1
  refine ⟨h1, by rw [z]; exact h2, fun q hq => (o q (by omega)).trans (h3 q hq), fun b d hb => ?_⟩
  by_cases hn : b = a
  · subst hn
    rw [xup_self] at hb
    cases hb
    exact ⟨p1, p2, hc⟩
  · rw [xup_ne hn] at hb
    obtain ⟨r1, r2, r3⟩ := h4 b d hb
    refine ⟨r1, r2, r3.kept ?_⟩
    have eb := xa_pos (G := G) r1
    exact o _ (by show xa G b ≠ xa G a; omega)
theorem xR.nw {G : xG} {h : xHp} {H H' : Heap} {c : xCel} (hR : xR G h H) (z : H'.size = H.size + 1) (o : ∀ q, q < H.size → H'[q]? = H[q]?) (hc : va_at (xD G) xCl (H.size, xE G c) H') : xR G (xnw h c) H' := by
  obtain ⟨h1, h2, h3, h4⟩ := hR
  have ea := xa_pos (G := G) h1
  refine ⟨by show 1 ≤ h.2 + 1; omega, by show H'.size + 1 = xB G + (h.2 + 1); omega, fun q hq => (o q (by omega)).trans (h3 q hq), fun b d hb => ?_⟩
  by_cases hn : b = h.2
  · subst hn
    rw [xnw_self] at hb
    cases hb
    refine ⟨h1, by show h.2 < h.2 + 1; omega, ?_⟩
    rw [ea, show xB G + h.2 - 1 = H.size by omega]
    exact hc
  · rw [xnw_ne hn] at hb
    obtain ⟨r1, r2, r3⟩ := h4 b d hb
    refine ⟨r1, by show b < h.2 + 1; omega, r3.kept ?_⟩
    have eb := xa_pos (G := G) r1
    exact o _ (by show xa G b < H.size; omega)
theorem xR.new_at {G : xG} {h : xHp} {H : Heap} (hR : xR G h H) : xa G h.2 = H.size := by
  have ea := xa_pos (G := G) hR.1
  have := hR.2.1
  omega
/-! the words that stay -/
def xok (w : Cond) : Bool := match w with
  | .fieldLinkNest .. => true
  | .methodLinkNest .. => true
  | .arrayOver (.object _) => true
  | .declares _ => true
  | w => goodWord w
def xT (U : State) : Prop := ∀ w ∈ lw_tbl, xok w = true → w.before #[] U = true
theorem xok_or {w : Cond} (h : xok w = true) : goodWord w = true ∨ (∃ a i b n d k, w = .fieldLinkNest a i b n d k) ∨ (∃ a i x k, w = .methodLinkNest a i x k) ∨ (∃ C, w = .arrayOver (.object C)) ∨ ∃ x, w = .declares x := by
  cases w with
  | arrayOver ty => cases ty <;> first | exact Or.inl h | exact Or.inr (Or.inr (Or.inr (Or.inl ⟨_, rfl⟩)))
  | declares x => exact Or.inr (Or.inr (Or.inr (Or.inr ⟨_, rfl⟩)))
  | _ => first | exact Or.inl h | exact Or.inr (Or.inl ⟨_, _, _, _, _, _, rfl⟩) | exact Or.inr (Or.inr (Or.inl ⟨_, _, _, _, rfl⟩))
theorem xT.moved {s U : State} (hW : s.WarmedH U.vm) (h : xT s) : xT U := by
  intro w hw hk
  have h1 := h w hw hk
  rcases xok_or hk with hg | ⟨a, i, b, n, d, k, rfl⟩ | ⟨a, i, x, k, rfl⟩ | ⟨C, rfl⟩ | ⟨x, rfl⟩
  · exact word_at hW (good_of_word hg) h1
  · exact va_Nw.warmF hW h1
  · exact va_Nw.warmM hW h1
  · exact va_AO.moved hW.alike h1
  · have h2 : (Cond.declares x).before #[] (s.setVm U.vm) = true := by rw [Cond.declares_setVm hW.alike]; exact h1
    exact vx_ot_at (State.WarmedH.refl (s.setVm U.vm)) rfl rfl h2
theorem xT.use {s : State} (h : xT s) {w : Cond} (hw : w ∈ lw_tbl) (hk : xok w = true) (args : Array Value) : w.before args s = true := by
  have h1 := h w hw hk
  rcases xok_or hk with hg | ⟨a, i, b, n, d, k, rfl⟩ | ⟨a, i, x, k, rfl⟩ | ⟨C, rfl⟩ | ⟨x, rfl⟩
  · exact word_at (State.WarmedH.refl s) (good_of_word hg) h1
  · exact va_Nw.use rfl h1
  · exact va_Nw.use rfl h1
  · exact va_AO.use h1
  · exact vx_ot_at (State.WarmedH.refl s) rfl rfl h1
def xZ (G : xG) (U : State) : Prop := vx_Zq Bundle.tN "UNASSIGNED_STACK" Bundle.steD (fun q => xB G ≤ q) U (xH0 G) ∧ vx_Zq Bundle.tN "SUPPRESSED_SENTINEL" Bundle.listD (fun q => xB G ≤ q) U (xH0 G) ∧ ∃ sa, vk_R RX11 126 "no such letter" sa U
def xK (G : xG) (U : State) : Prop := va_K (xD G) xCl (xTys G) U ∧ xT U ∧ va_X (xb G) (xLn G) (xS G) U (xH0 G) ∧ (xb G < xB G ∧ (xH0 G).size = xB G ∧ G.1.stackTraces = false) ∧ xZ G U
theorem xK.moved {G : xG} {s U : State} (hW : s.WarmedH U.vm) (h : xK G s) : xK G U := by
  obtain ⟨h1, h2, h3, h4, h5, h6, sa, h7⟩ := h
  exact ⟨va_K.moved hW.alike h1, xT.moved hW h2, va_X.moved hW.alike h3, h4, vx_Zq.moved hW.alike h5, vx_Zq.moved hW.alike h6, sa, vk_R.warm hW h7⟩
/-! a method: its name, code, locals, answer's type, handlers -/
abbrev xM : Type := MethodName × ByteArray × Nat × Option FieldType × List (Nat × Nat × Nat × Nat)
def xC (G : xG) (M : xM) (p : Program) (s : State) (m : MethodId) (meth : Method) (c : Code) : Prop :=
  p.tables.exec = Jvm.exec ∧ c.code = M.2.1 ∧ c.maxLocals = M.2.2.1 ∧ s.vm.findClass M.1.cls = some m.cls ∧ meth.sig.returnType = M.2.2.2.1 ∧ meth.locks = false ∧ meth.name = M.1.name ∧ c.exceptionTable.toList = tableOf M.2.2.2.2 ∧ xK G s
abbrev xL (G : xG) (ls : List (Nat × Value)) : List (Nat × Value) := ls.map (fun q => (q.1, xv G q.2))
def xget (ls : List (Nat × Value)) (i : Nat) : Option Value := match ls with
  | [] => none
  | (j, v) :: r => if j = i then some v else xget r i
def xset (i : Nat) (v : Value) (ls : List (Nat × Value)) : List (Nat × Value) := match ls with
  | [] => [(i, v)]
  | (j, w) :: r => if j = i then (i, v) :: r.filter (fun q => !(q.1 == i)) else (j, w) :: xset i v r
theorem xget_mem {ls : List (Nat × Value)} {i : Nat} {v : Value} (h : xget ls i = some v) : (i, v) ∈ ls := by
  induction ls with
  | nil => cases h
  | cons q r ih =>
    obtain ⟨j, w⟩ := q
    simp only [xget] at h
    split at h
    next e => cases h; subst e; exact List.mem_cons_self
    next e => exact List.mem_cons_of_mem _ (ih h)
theorem xset_mem {ls : List (Nat × Value)} {i : Nat} {v : Value} (q : Nat × Value) (h : q ∈ xset i v ls) : q = (i, v) ∨ (q ∈ ls ∧ q.1 ≠ i) := by
  induction ls with
  | nil => simp [xset] at h; exact Or.inl h
  | cons x r ih =>
    obtain ⟨j, w⟩ := x
    simp only [xset] at h
    split at h
    next e =>
      rcases List.mem_cons.mp h with h | h
      · exact Or.inl h
      · have h2 := List.mem_filter.mp h
        exact Or.inr ⟨List.mem_cons_of_mem _ h2.1, by simpa using h2.2⟩
    next e =>
      rcases List.mem_cons.mp h with h | h
      · subst h; exact Or.inr ⟨List.mem_cons_self, e⟩
      · rcases ih h with h | ⟨h, h2⟩
        · exact Or.inl h
        · exact Or.inr ⟨List.mem_cons_of_mem _ h, h2⟩

theorem xl_at {G : xG} {lsA : Array Slot} {nL : Nat} {ls : List (Nat × Value)} {i : Nat} {v : Value} (hl : lv_has lsA nL (xL G ls)) (h : xget ls i = some v) : lsA[i]? = some (.val (xv G v)) := hl.2.2 (i, xv G v) (List.mem_map.mpr ⟨(i, v), xget_mem h, rfl⟩)
/-- no long lies just ahead of the place -/
def xno2 (i : Nat) (ls : List (Nat × Value)) : Bool := ls.all (fun q => !(q.1 + 1 == i && q.2.category == 2))
theorem xv_cat (G : xG) (v : Value) : (xv G v).category = v.category := by cases v <;> rfl
theorem xl_set {G : xG} {lsA : Array Slot} {nL : Nat} {ls ls' : List (Nat × Value)} {i : Nat} {v : Value} (hs : xset i v ls = ls') (h2 : xno2 i ls = true) (h : lv_has lsA nL ((i, xv G v) :: (xL G ls).filter (fun q => !(q.1 == i) && !(q.1 + 1 == i && q.2.category == 2)))) : lv_has lsA nL (xL G ls') := by
  refine ⟨h.1, h.2.1, fun q hq => ?_⟩
  obtain ⟨q0, hq0, rfl⟩ := List.mem_map.mp hq
  rw [← hs] at hq0
  refine h.2.2 _ ?_
  rcases xset_mem q0 hq0 with rfl | ⟨hm, hn⟩
  · exact List.mem_cons_self
  · refine List.mem_cons_of_mem _ (List.mem_filter.mpr ⟨List.mem_map.mpr ⟨q0, hm, rfl⟩, ?_⟩)
    have h3 := List.all_eq_true.mp h2 q0 hm
    simp only [xv_cat]
    simp only [Bool.and_eq_true]
    exact ⟨by simpa using hn, h3⟩
/-- the machine at pc of the method M, its locals ls, its stack st, the heap h, comes to a state with F -/
def Wx (G : xG) (M : xM) (R : Room) (F : List Frame → Array Value → State → State → Prop) (uc us pc : Nat) (ls : List (Nat × Value)) (st : List Value) (h : xHp) : Prop :=
  ∀ (p : Program) (e : Env) (s : State) (m : MethodId) (args : Array Value) (below : List Frame) (meth : Method) (c : Code) (H : Heap) (locs : List Loc) (lsA : Array Slot), xC G M p s m meth c → xR G h H → (∀ z ∈ locs, xB G ≤ z.base) → lv_has lsA M.2.2.1 (xL G ls) →
    W p G.1 e R s m args below meth c H locs uc us (F below args s) (F0 m pc lsA (st.map (xv G)))
section XI
variable {G : xG} {M : xM} {R : Room} {F : List Frame → Array Value → State → State → Prop} {uc us pc : Nat} {ls : List (Nat × Value)} {st : List Value} {h : xHp}
theorem x_iconst {n : Int} {v : Int32} (hd : decode M.2.1 pc = .ok (.iconst n, 1)) (hv : Int32.ofInt n = v) (k : Wx G M R F uc us (pc + 1) ls (.int v :: st) h) : Wx G M R F uc us pc ls (st) h := fun p e s m args below meth c H locs lsA hC hR hL hl => lv_iconst hC.1 hC.2.1 hd hv (k p e s m args below meth c H locs lsA hC hR hL hl)
theorem x_bipush {n : Int} {v : Int32} (hd : decode M.2.1 pc = .ok (.bipush n, 2)) (hv : (Int8.ofInt n).toInt32 = v) (k : Wx G M R F uc us (pc + 2) ls (.int v :: st) h) : Wx G M R F uc us pc ls (st) h := fun p e s m args below meth c H locs lsA hC hR hL hl => lv_bipush hC.1 hC.2.1 hd hv (k p e s m args below meth c H locs lsA hC hR hL hl)
theorem x_sipush {n : Int} {v : Int32} (hd : decode M.2.1 pc = .ok (.sipush n, 3)) (hv : (Int16.ofInt n).toInt32 = v) (k : Wx G M R F uc us (pc + 3) ls (.int v :: st) h) : Wx G M R F uc us pc ls (st) h := fun p e s m args below meth c H locs lsA hC hR hL hl => lv_sipush hC.1 hC.2.1 hd hv (k p e s m args below meth c H locs lsA hC hR hL hl)
theorem x_lconst {n : Fin 2} {v : Int64} (hd : decode M.2.1 pc = .ok (.lconst n, 1)) (hv : Int64.ofNat (n : Nat) = v) (k : Wx G M R F uc us (pc + 1) ls (.long v :: st) h) : Wx G M R F uc us pc ls (st) h := fun p e s m args below meth c H locs lsA hC hR hL hl => lv_lconst hC.1 hC.2.1 hd hv (k p e s m args below meth c H locs lsA hC hR hL hl)
theorem x_null  (hd : decode M.2.1 pc = .ok (.aconst_null, 1)) (k : Wx G M R F uc us (pc + 1) ls (.null :: st) h) : Wx G M R F uc us pc ls (st) h := fun p e s m args below meth c H locs lsA hC hR hL hl => lv_null hC.1 hC.2.1 hd (k p e s m args below meth c H locs lsA hC hR hL hl)
theorem x_iload_n {n : Fin 4} {x : Int32} (hd : decode M.2.1 pc = .ok (.iload_n n, 1)) (hk : xget ls (n : Nat) = some (.int x)) (k : Wx G M R F uc us (pc + 1) ls (.int x :: st) h) : Wx G M R F uc us pc ls (st) h := fun p e s m args below meth c H locs lsA hC hR hL hl => lv_iload_n hC.1 hC.2.1 hd rfl (xl_at hl hk) (k p e s m args below meth c H locs lsA hC hR hL hl)
theorem x_iload {n : Nat} {x : Int32} (hd : decode M.2.1 pc = .ok (.iload n, 2)) (hk : xget ls n = some (.int x)) (k : Wx G M R F uc us (pc + 2) ls (.int x :: st) h) : Wx G M R F uc us pc ls (st) h := fun p e s m args below meth c H locs lsA hC hR hL hl => lv_iload hC.1 hC.2.1 hd (xl_at hl hk) (k p e s m args below meth c H locs lsA hC hR hL hl)
theorem x_lload_n {n : Fin 4} {x : Int64} (hd : decode M.2.1 pc = .ok (.lload_n n, 1)) (hk : xget ls (n : Nat) = some (.long x)) (k : Wx G M R F uc us (pc + 1) ls (.long x :: st) h) : Wx G M R F uc us pc ls (st) h := fun p e s m args below meth c H locs lsA hC hR hL hl => lv_lload_n hC.1 hC.2.1 hd rfl (xl_at hl hk) (k p e s m args below meth c H locs lsA hC hR hL hl)
theorem x_aload_n {n : Fin 4} {a : Nat} (hd : decode M.2.1 pc = .ok (.aload_n n, 1)) (hk : xget ls (n : Nat) = some (.ref a)) (k : Wx G M R F uc us (pc + 1) ls (.ref a :: st) h) : Wx G M R F uc us pc ls (st) h := fun p e s m args below meth c H locs lsA hC hR hL hl => lv_aload_n hC.1 hC.2.1 hd rfl (xl_at hl hk) (k p e s m args below meth c H locs lsA hC hR hL hl)
theorem x_aload {n : Nat} {a : Nat} (hd : decode M.2.1 pc = .ok (.aload n, 2)) (hk : xget ls n = some (.ref a)) (k : Wx G M R F uc us (pc + 2) ls (.ref a :: st) h) : Wx G M R F uc us pc ls (st) h := fun p e s m args below meth c H locs lsA hC hR hL hl => lv_aload hC.1 hC.2.1 hd (xl_at hl hk) (k p e s m args below meth c H locs lsA hC hR hL hl)
theorem x_istore_n {n : Fin 4} {x : Int32} (ls' : List (Nat × Value)) (hd : decode M.2.1 pc = .ok (.istore_n n, 1)) (hn : ((n : Nat)) < M.2.2.1) (h2 : xno2 (n : Nat) ls = true) (hs : xset (n : Nat) (.int x) ls = ls') (k : Wx G M R F uc us (pc + 1) ls' st h) : Wx G M R F uc us pc ls (.int x :: st) h := fun p e s m args below meth c H locs lsA hC hR hL hl => lv_istore_n hC.1 hC.2.1 hd rfl hl hn rfl (fun lsB hB => k p e s m args below meth c H locs lsB hC hR hL (xl_set hs h2 hB))
theorem x_istore {n : Nat} {x : Int32} (ls' : List (Nat × Value)) (hd : decode M.2.1 pc = .ok (.istore n, 2)) (hn : (n) < M.2.2.1) (h2 : xno2 n ls = true) (hs : xset n (.int x) ls = ls') (k : Wx G M R F uc us (pc + 2) ls' st h) : Wx G M R F uc us pc ls (.int x :: st) h := fun p e s m args below meth c H locs lsA hC hR hL hl => lv_istore hC.1 hC.2.1 hd hl hn rfl (fun lsB hB => k p e s m args below meth c H locs lsB hC hR hL (xl_set hs h2 hB))
theorem x_astore_n {n : Fin 4} {x : Nat} (ls' : List (Nat × Value)) (hd : decode M.2.1 pc = .ok (.astore_n n, 1)) (hn : ((n : Nat)) < M.2.2.1) (h2 : xno2 (n : Nat) ls = true) (hs : xset (n : Nat) (.ref x) ls = ls') (k : Wx G M R F uc us (pc + 1) ls' st h) : Wx G M R F uc us pc ls (.ref x :: st) h := fun p e s m args below meth c H locs lsA hC hR hL hl => lv_astore_n hC.1 hC.2.1 hd rfl hl hn rfl (fun lsB hB => k p e s m args below meth c H locs lsB hC hR hL (xl_set hs h2 hB))
theorem x_astore {n : Nat} {x : Nat} (ls' : List (Nat × Value)) (hd : decode M.2.1 pc = .ok (.astore n, 2)) (hn : (n) < M.2.2.1) (h2 : xno2 n ls = true) (hs : xset n (.ref x) ls = ls') (k : Wx G M R F uc us (pc + 2) ls' st h) : Wx G M R F uc us pc ls (.ref x :: st) h := fun p e s m args below meth c H locs lsA hC hR hL hl => lv_astore hC.1 hC.2.1 hd hl hn rfl (fun lsB hB => k p e s m args below meth c H locs lsB hC hR hL (xl_set hs h2 hB))
theorem x_iinc {n : Nat} {z : Int} {x v : Int32} (ls' : List (Nat × Value)) (hd : decode M.2.1 pc = .ok (.iinc n z, 3)) (hk : xget ls n = some (.int x)) (hv : x + Int32.ofInt z = v) (hn : n < M.2.2.1) (h2 : xno2 n ls = true) (hs : xset n (.int v) ls = ls') (k : Wx G M R F uc us (pc + 3) ls' st h) : Wx G M R F uc us pc ls st h := by
  intro p e s m args below meth c H locs lsA hC hR hL hl
  obtain ⟨kp, hkp⟩ := List.getElem?_of_mem (List.mem_map.mpr ⟨(n, Value.int x), xget_mem hk, rfl⟩ : (n, xv G (.int x)) ∈ xL G ls)
  exact lv_iinc hC.1 hC.2.1 hd hl (k := kp) hkp hv hn rfl (fun lsB hB => k p e s m args below meth c H locs lsB hC hR hL (xl_set hs h2 hB))
theorem x_iadd {x y : Int32} (hd : decode M.2.1 pc = .ok (.iadd, 1)) (k : Wx G M R F uc us (pc + 1) ls (.int (x + y) :: st) h) : Wx G M R F uc us pc ls (.int y :: .int x :: st) h := fun p e s m args below meth c H locs lsA hC hR hL hl => lv_iadd hC.1 hC.2.1 hd (k p e s m args below meth c H locs lsA hC hR hL hl)
theorem x_isub {x y : Int32} (hd : decode M.2.1 pc = .ok (.isub, 1)) (k : Wx G M R F uc us (pc + 1) ls (.int (x - y) :: st) h) : Wx G M R F uc us pc ls (.int y :: .int x :: st) h := fun p e s m args below meth c H locs lsA hC hR hL hl => lv_isub hC.1 hC.2.1 hd (k p e s m args below meth c H locs lsA hC hR hL hl)
theorem x_imul {x y : Int32} (hd : decode M.2.1 pc = .ok (.imul, 1)) (k : Wx G M R F uc us (pc + 1) ls (.int (x * y) :: st) h) : Wx G M R F uc us pc ls (.int y :: .int x :: st) h := fun p e s m args below meth c H locs lsA hC hR hL hl => lv_imul hC.1 hC.2.1 hd (k p e s m args below meth c H locs lsA hC hR hL hl)
theorem x_iand {x y : Int32} (hd : decode M.2.1 pc = .ok (.iand, 1)) (k : Wx G M R F uc us (pc + 1) ls (.int (x &&& y) :: st) h) : Wx G M R F uc us pc ls (.int y :: .int x :: st) h := fun p e s m args below meth c H locs lsA hC hR hL hl => lv_iand hC.1 hC.2.1 hd (k p e s m args below meth c H locs lsA hC hR hL hl)
theorem x_ior {x y : Int32} (hd : decode M.2.1 pc = .ok (.ior, 1)) (k : Wx G M R F uc us (pc + 1) ls (.int (x ||| y) :: st) h) : Wx G M R F uc us pc ls (.int y :: .int x :: st) h := fun p e s m args below meth c H locs lsA hC hR hL hl => lv_ior hC.1 hC.2.1 hd (k p e s m args below meth c H locs lsA hC hR hL hl)
theorem x_ixor {x y : Int32} (hd : decode M.2.1 pc = .ok (.ixor, 1)) (k : Wx G M R F uc us (pc + 1) ls (.int (x ^^^ y) :: st) h) : Wx G M R F uc us pc ls (.int y :: .int x :: st) h := fun p e s m args below meth c H locs lsA hC hR hL hl => lv_ixor hC.1 hC.2.1 hd (k p e s m args below meth c H locs lsA hC hR hL hl)
theorem x_ishl {x y : Int32} (hd : decode M.2.1 pc = .ok (.ishl, 1)) (k : Wx G M R F uc us (pc + 1) ls (.int (x <<< (y &&& 31)) :: st) h) : Wx G M R F uc us pc ls (.int y :: .int x :: st) h := fun p e s m args below meth c H locs lsA hC hR hL hl => lv_ishl hC.1 hC.2.1 hd (k p e s m args below meth c H locs lsA hC hR hL hl)
theorem x_ishr {x y : Int32} (hd : decode M.2.1 pc = .ok (.ishr, 1)) (k : Wx G M R F uc us (pc + 1) ls (.int (x >>> (y &&& 31)) :: st) h) : Wx G M R F uc us pc ls (.int y :: .int x :: st) h := fun p e s m args below meth c H locs lsA hC hR hL hl => lv_ishr hC.1 hC.2.1 hd (k p e s m args below meth c H locs lsA hC hR hL hl)
theorem x_idiv {x y : Int32} (hd : decode M.2.1 pc = .ok (.idiv, 1)) (hne : ¬ y = 0) (k : Wx G M R F uc us (pc + 1) ls (.int (x / y) :: st) h) : Wx G M R F uc us pc ls (.int y :: .int x :: st) h := fun p e s m args below meth c H locs lsA hC hR hL hl => lv_idiv hC.1 hC.2.1 hd hne (k p e s m args below meth c H locs lsA hC hR hL hl)
theorem x_irem {x y : Int32} (hd : decode M.2.1 pc = .ok (.irem, 1)) (hne : ¬ y = 0) (k : Wx G M R F uc us (pc + 1) ls (.int (x - x / y * y) :: st) h) : Wx G M R F uc us pc ls (.int y :: .int x :: st) h := fun p e s m args below meth c H locs lsA hC hR hL hl => lv_irem hC.1 hC.2.1 hd hne (k p e s m args below meth c H locs lsA hC hR hL hl)
theorem x_iushr {x y : Int32} (hd : decode M.2.1 pc = .ok (.iushr, 1)) (k : Wx G M R F uc us (pc + 1) ls (.int ((x.toUInt32 >>> (y.toUInt32 &&& Int32.toUInt32 31)).toInt32) :: st) h) : Wx G M R F uc us pc ls (.int y :: .int x :: st) h := fun p e s m args below meth c H locs lsA hC hR hL hl => lv_iushr hC.1 hC.2.1 hd rfl (k p e s m args below meth c H locs lsA hC hR hL hl)
theorem x_ladd {x y : Int64} (hd : decode M.2.1 pc = .ok (.ladd, 1)) (k : Wx G M R F uc us (pc + 1) ls (.long (x + y) :: st) h) : Wx G M R F uc us pc ls (.long y :: .long x :: st) h := fun p e s m args below meth c H locs lsA hC hR hL hl => lv_ladd hC.1 hC.2.1 hd (k p e s m args below meth c H locs lsA hC hR hL hl)
theorem x_lmul {x y : Int64} (hd : decode M.2.1 pc = .ok (.lmul, 1)) (k : Wx G M R F uc us (pc + 1) ls (.long (x * y) :: st) h) : Wx G M R F uc us pc ls (.long y :: .long x :: st) h := fun p e s m args below meth c H locs lsA hC hR hL hl => lv_lmul hC.1 hC.2.1 hd (k p e s m args below meth c H locs lsA hC hR hL hl)
theorem x_land {x y : Int64} (hd : decode M.2.1 pc = .ok (.land, 1)) (k : Wx G M R F uc us (pc + 1) ls (.long (x &&& y) :: st) h) : Wx G M R F uc us pc ls (.long y :: .long x :: st) h := fun p e s m args below meth c H locs lsA hC hR hL hl => lv_land hC.1 hC.2.1 hd (k p e s m args below meth c H locs lsA hC hR hL hl)
theorem x_lor {x y : Int64} (hd : decode M.2.1 pc = .ok (.lor, 1)) (k : Wx G M R F uc us (pc + 1) ls (.long (x ||| y) :: st) h) : Wx G M R F uc us pc ls (.long y :: .long x :: st) h := fun p e s m args below meth c H locs lsA hC hR hL hl => lv_lor hC.1 hC.2.1 hd (k p e s m args below meth c H locs lsA hC hR hL hl)
theorem x_lshl {x : Int64} {y : Int32} (hd : decode M.2.1 pc = .ok (.lshl, 1)) (k : Wx G M R F uc us (pc + 1) ls (.long (x <<< (y.toInt64 &&& 63)) :: st) h) : Wx G M R F uc us pc ls (.int y :: .long x :: st) h := fun p e s m args below meth c H locs lsA hC hR hL hl => lv_lshl hC.1 hC.2.1 hd rfl (k p e s m args below meth c H locs lsA hC hR hL hl)
theorem x_lshr {x : Int64} {y : Int32} (hd : decode M.2.1 pc = .ok (.lshr, 1)) (k : Wx G M R F uc us (pc + 1) ls (.long (x >>> (y.toInt64 &&& 63)) :: st) h) : Wx G M R F uc us pc ls (.int y :: .long x :: st) h := fun p e s m args below meth c H locs lsA hC hR hL hl => lv_lshr hC.1 hC.2.1 hd rfl (k p e s m args below meth c H locs lsA hC hR hL hl)
theorem x_lushr {x : Int64} {y : Int32} (hd : decode M.2.1 pc = .ok (.lushr, 1)) (k : Wx G M R F uc us (pc + 1) ls (.long ((x.toUInt64 >>> (y.toInt64.toUInt64 &&& Int64.toUInt64 63)).toInt64) :: st) h) : Wx G M R F uc us pc ls (.int y :: .long x :: st) h := fun p e s m args below meth c H locs lsA hC hR hL hl => lv_lushr hC.1 hC.2.1 hd rfl (k p e s m args below meth c H locs lsA hC hR hL hl)
theorem x_i2l {x : Int32} (hd : decode M.2.1 pc = .ok (.i2l, 1)) (k : Wx G M R F uc us (pc + 1) ls (.long x.toInt64 :: st) h) : Wx G M R F uc us pc ls (.int x :: st) h := fun p e s m args below meth c H locs lsA hC hR hL hl => lv_i2l hC.1 hC.2.1 hd rfl (k p e s m args below meth c H locs lsA hC hR hL hl)
theorem x_l2i {x : Int64} (hd : decode M.2.1 pc = .ok (.l2i, 1)) (k : Wx G M R F uc us (pc + 1) ls (.int x.toInt32 :: st) h) : Wx G M R F uc us pc ls (.long x :: st) h := fun p e s m args below meth c H locs lsA hC hR hL hl => lv_l2i hC.1 hC.2.1 hd rfl (k p e s m args below meth c H locs lsA hC hR hL hl)
theorem x_i2b {x : Int32} (hd : decode M.2.1 pc = .ok (.i2b, 1)) (k : Wx G M R F uc us (pc + 1) ls (.int x.toInt8.toInt32 :: st) h) : Wx G M R F uc us pc ls (.int x :: st) h := fun p e s m args below meth c H locs lsA hC hR hL hl => lv_i2b hC.1 hC.2.1 hd rfl (k p e s m args below meth c H locs lsA hC hR hL hl)
theorem x_lcmp {x y : Int64} (hd : decode M.2.1 pc = .ok (.lcmp, 1)) (k : Wx G M R F uc us (pc + 1) ls (.int (lg_cmp x y) :: st) h) : Wx G M R F uc us pc ls (.long y :: .long x :: st) h := fun p e s m args below meth c H locs lsA hC hR hL hl => W.lcmp hC.1 hC.2.1 hd (k p e s m args below meth c H locs lsA hC hR hL hl)
theorem x_dup {v : Value} (hd : decode M.2.1 pc = .ok (.dup, 1)) (hv : v.category = 1) (k : Wx G M R F uc us (pc + 1) ls (v :: v :: st) h) : Wx G M R F uc us pc ls (v :: st) h := fun p e s m args below meth c H locs lsA hC hR hL hl => lv_dup hC.1 hC.2.1 hd ((xv_cat G v).trans hv) (k p e s m args below meth c H locs lsA hC hR hL hl)
theorem x_pop {v : Value} (hd : decode M.2.1 pc = .ok (.pop, 1)) (hv : v.category = 1) (k : Wx G M R F uc us (pc + 1) ls (st) h) : Wx G M R F uc us pc ls (v :: st) h := fun p e s m args below meth c H locs lsA hC hR hL hl => lv_pop hC.1 hC.2.1 hd ((xv_cat G v).trans hv) (k p e s m args below meth c H locs lsA hC hR hL hl)
theorem x_dup2 {v w : Value} (hd : decode M.2.1 pc = .ok (.dup2, 1)) (hv : v.category = 1) (hw : w.category = 1) (k : Wx G M R F uc us (pc + 1) ls (v :: w :: v :: w :: st) h) : Wx G M R F uc us pc ls (v :: w :: st) h := fun p e s m args below meth c H locs lsA hC hR hL hl => lv_dup2_11 hC.1 hC.2.1 hd ((xv_cat G v).trans hv) ((xv_cat G w).trans hw) (k p e s m args below meth c H locs lsA hC hR hL hl)
theorem x_if_eq {x : Int32} {off : Int} (tgt : Nat) (hd : decode M.2.1 pc = .ok (.ifCond .eq off, 3)) (ht : (pc : Int) + off = (tgt : Int)) (kt : x = 0 → Wx G M R F uc us tgt ls st h) (kf : ¬ x = 0 → Wx G M R F uc us (pc + 3) ls st h) : Wx G M R F uc us pc ls (.int x :: st) h := fun p e s m args below meth c H locs lsA hC hR hL hl => lv_if_eq hC.1 hC.2.1 hd ht (fun q => kt q p e s m args below meth c H locs lsA hC hR hL hl) (fun q => kf q p e s m args below meth c H locs lsA hC hR hL hl)
theorem x_if_ne {x : Int32} {off : Int} (tgt : Nat) (hd : decode M.2.1 pc = .ok (.ifCond .ne off, 3)) (ht : (pc : Int) + off = (tgt : Int)) (kt : ¬ x = 0 → Wx G M R F uc us tgt ls st h) (kf : x = 0 → Wx G M R F uc us (pc + 3) ls st h) : Wx G M R F uc us pc ls (.int x :: st) h := fun p e s m args below meth c H locs lsA hC hR hL hl => lv_if_ne hC.1 hC.2.1 hd ht (fun q => kt q p e s m args below meth c H locs lsA hC hR hL hl) (fun q => kf q p e s m args below meth c H locs lsA hC hR hL hl)
theorem x_if_lt {x : Int32} {off : Int} (tgt : Nat) (hd : decode M.2.1 pc = .ok (.ifCond .lt off, 3)) (ht : (pc : Int) + off = (tgt : Int)) (kt : x < 0 → Wx G M R F uc us tgt ls st h) (kf : ¬ x < 0 → Wx G M R F uc us (pc + 3) ls st h) : Wx G M R F uc us pc ls (.int x :: st) h := fun p e s m args below meth c H locs lsA hC hR hL hl => lv_if_lt hC.1 hC.2.1 hd ht (fun q => kt q p e s m args below meth c H locs lsA hC hR hL hl) (fun q => kf q p e s m args below meth c H locs lsA hC hR hL hl)
theorem x_if_ge {x : Int32} {off : Int} (tgt : Nat) (hd : decode M.2.1 pc = .ok (.ifCond .ge off, 3)) (ht : (pc : Int) + off = (tgt : Int)) (kt : 0 ≤ x → Wx G M R F uc us tgt ls st h) (kf : ¬ 0 ≤ x → Wx G M R F uc us (pc + 3) ls st h) : Wx G M R F uc us pc ls (.int x :: st) h := fun p e s m args below meth c H locs lsA hC hR hL hl => lv_if_ge hC.1 hC.2.1 hd ht (fun q => kt q p e s m args below meth c H locs lsA hC hR hL hl) (fun q => kf q p e s m args below meth c H locs lsA hC hR hL hl)
theorem x_if_gt {x : Int32} {off : Int} (tgt : Nat) (hd : decode M.2.1 pc = .ok (.ifCond .gt off, 3)) (ht : (pc : Int) + off = (tgt : Int)) (kt : 0 < x → Wx G M R F uc us tgt ls st h) (kf : ¬ 0 < x → Wx G M R F uc us (pc + 3) ls st h) : Wx G M R F uc us pc ls (.int x :: st) h := fun p e s m args below meth c H locs lsA hC hR hL hl => lv_if_gt hC.1 hC.2.1 hd ht (fun q => kt q p e s m args below meth c H locs lsA hC hR hL hl) (fun q => kf q p e s m args below meth c H locs lsA hC hR hL hl)
theorem x_if_le {x : Int32} {off : Int} (tgt : Nat) (hd : decode M.2.1 pc = .ok (.ifCond .le off, 3)) (ht : (pc : Int) + off = (tgt : Int)) (kt : x ≤ 0 → Wx G M R F uc us tgt ls st h) (kf : ¬ x ≤ 0 → Wx G M R F uc us (pc + 3) ls st h) : Wx G M R F uc us pc ls (.int x :: st) h := fun p e s m args below meth c H locs lsA hC hR hL hl => lv_if_le hC.1 hC.2.1 hd ht (fun q => kt q p e s m args below meth c H locs lsA hC hR hL hl) (fun q => kf q p e s m args below meth c H locs lsA hC hR hL hl)
theorem x_icmp_eq {x y : Int32} {off : Int} (tgt : Nat) (hd : decode M.2.1 pc = .ok (.if_icmp .eq off, 3)) (ht : (pc : Int) + off = (tgt : Int)) (kt : x = y → Wx G M R F uc us tgt ls st h) (kf : ¬ x = y → Wx G M R F uc us (pc + 3) ls st h) : Wx G M R F uc us pc ls (.int y :: .int x :: st) h := fun p e s m args below meth c H locs lsA hC hR hL hl => lv_icmp_eq hC.1 hC.2.1 hd ht (fun q => kt q p e s m args below meth c H locs lsA hC hR hL hl) (fun q => kf q p e s m args below meth c H locs lsA hC hR hL hl)
theorem x_icmp_ne {x y : Int32} {off : Int} (tgt : Nat) (hd : decode M.2.1 pc = .ok (.if_icmp .ne off, 3)) (ht : (pc : Int) + off = (tgt : Int)) (kt : ¬ x = y → Wx G M R F uc us tgt ls st h) (kf : x = y → Wx G M R F uc us (pc + 3) ls st h) : Wx G M R F uc us pc ls (.int y :: .int x :: st) h := fun p e s m args below meth c H locs lsA hC hR hL hl => lv_icmp_ne hC.1 hC.2.1 hd ht (fun q => kt q p e s m args below meth c H locs lsA hC hR hL hl) (fun q => kf q p e s m args below meth c H locs lsA hC hR hL hl)
theorem x_icmp_lt {x y : Int32} {off : Int} (tgt : Nat) (hd : decode M.2.1 pc = .ok (.if_icmp .lt off, 3)) (ht : (pc : Int) + off = (tgt : Int)) (kt : x < y → Wx G M R F uc us tgt ls st h) (kf : ¬ x < y → Wx G M R F uc us (pc + 3) ls st h) : Wx G M R F uc us pc ls (.int y :: .int x :: st) h := fun p e s m args below meth c H locs lsA hC hR hL hl => lv_icmp_lt hC.1 hC.2.1 hd ht (fun q => kt q p e s m args below meth c H locs lsA hC hR hL hl) (fun q => kf q p e s m args below meth c H locs lsA hC hR hL hl)
theorem x_icmp_ge {x y : Int32} {off : Int} (tgt : Nat) (hd : decode M.2.1 pc = .ok (.if_icmp .ge off, 3)) (ht : (pc : Int) + off = (tgt : Int)) (kt : y ≤ x → Wx G M R F uc us tgt ls st h) (kf : ¬ y ≤ x → Wx G M R F uc us (pc + 3) ls st h) : Wx G M R F uc us pc ls (.int y :: .int x :: st) h := fun p e s m args below meth c H locs lsA hC hR hL hl => lv_icmp_ge hC.1 hC.2.1 hd ht (fun q => kt q p e s m args below meth c H locs lsA hC hR hL hl) (fun q => kf q p e s m args below meth c H locs lsA hC hR hL hl)
theorem x_icmp_gt {x y : Int32} {off : Int} (tgt : Nat) (hd : decode M.2.1 pc = .ok (.if_icmp .gt off, 3)) (ht : (pc : Int) + off = (tgt : Int)) (kt : y < x → Wx G M R F uc us tgt ls st h) (kf : ¬ y < x → Wx G M R F uc us (pc + 3) ls st h) : Wx G M R F uc us pc ls (.int y :: .int x :: st) h := fun p e s m args below meth c H locs lsA hC hR hL hl => lv_icmp_gt hC.1 hC.2.1 hd ht (fun q => kt q p e s m args below meth c H locs lsA hC hR hL hl) (fun q => kf q p e s m args below meth c H locs lsA hC hR hL hl)
theorem x_icmp_le {x y : Int32} {off : Int} (tgt : Nat) (hd : decode M.2.1 pc = .ok (.if_icmp .le off, 3)) (ht : (pc : Int) + off = (tgt : Int)) (kt : x ≤ y → Wx G M R F uc us tgt ls st h) (kf : ¬ x ≤ y → Wx G M R F uc us (pc + 3) ls st h) : Wx G M R F uc us pc ls (.int y :: .int x :: st) h := fun p e s m args below meth c H locs lsA hC hR hL hl => lv_icmp_le hC.1 hC.2.1 hd ht (fun q => kt q p e s m args below meth c H locs lsA hC hR hL hl) (fun q => kf q p e s m args below meth c H locs lsA hC hR hL hl)
theorem x_goto {off : Int} (tgt : Nat) (hd : decode M.2.1 pc = .ok (.goto off, 3)) (ht : (pc : Int) + off = (tgt : Int)) (k : Wx G M R F uc us tgt ls st h) : Wx G M R F uc us pc ls st h := fun p e s m args below meth c H locs lsA hC hR hL hl => lv_goto hC.1 hC.2.1 hd ht (k p e s m args below meth c H locs lsA hC hR hL hl)
theorem x_tswOut {dflt lo hi : Int} {offs : Array Int} {len : Nat} {x : Int32} (tgt : Nat) (hd : decode M.2.1 pc = .ok (.tableswitch dflt lo hi offs, len)) (hx : x.toInt < lo ∨ hi < x.toInt) (ht : (pc : Int) + dflt = (tgt : Int)) (k : Wx G M R F uc us tgt ls st h) : Wx G M R F uc us pc ls (.int x :: st) h := fun p e s m args below meth c H locs lsA hC hR hL hl => lv_tableOut hC.1 hC.2.1 hd hx ht (k p e s m args below meth c H locs lsA hC hR hL hl)
theorem x_tswIn {dflt lo hi : Int} {offs : Array Int} {len : Nat} {x : Int32} {off : Int} (tgt : Nat) (hd : decode M.2.1 pc = .ok (.tableswitch dflt lo hi offs, len)) (h1 : ¬ x.toInt < lo) (h2 : ¬ hi < x.toInt) (ho : offs[(x.toInt - lo).toNat]? = some off) (ht : (pc : Int) + off = (tgt : Int)) (k : Wx G M R F uc us tgt ls st h) : Wx G M R F uc us pc ls (.int x :: st) h := fun p e s m args below meth c H locs lsA hC hR hL hl => lv_tableIn hC.1 hC.2.1 hd h1 h2 ho ht (k p e s m args below meth c H locs lsA hC hR hL hl)
theorem x_ldc {i : Nat} {v : Int32} (hw : Cond.constant M.1.cls i v ∈ lw_tbl) (hd : decode M.2.1 pc = .ok (.ldc i, 2)) (k : Wx G M R F uc us (pc + 2) ls (.int v :: st) h) : Wx G M R F uc us pc ls st h := fun p e s m args below meth c H locs lsA hC hR hL hl => lv_ldc hC.1 hC.2.1 hC.2.2.2.1 (hC.2.2.2.2.2.2.2.2.2.1.use hw rfl args) hd (k p e s m args below meth c H locs lsA hC hR hL hl)
theorem x_ldcw {i : Nat} {v : Int32} (hw : Cond.constant M.1.cls i v ∈ lw_tbl) (hd : decode M.2.1 pc = .ok (.ldc_w i, 3)) (k : Wx G M R F uc us (pc + 3) ls (.int v :: st) h) : Wx G M R F uc us pc ls st h := fun p e s m args below meth c H locs lsA hC hR hL hl => lv_ldcw hC.1 hC.2.1 hC.2.2.2.1 (hC.2.2.2.2.2.2.2.2.2.1.use hw rfl args) hd (k p e s m args below meth c H locs lsA hC hR hL hl)
theorem x_ldc2 {i : Nat} {v : Int64} (hw : Cond.constantLong M.1.cls i v ∈ lw_tbl) (hd : decode M.2.1 pc = .ok (.ldc2_w i, 3)) (k : Wx G M R F uc us (pc + 3) ls (.long v :: st) h) : Wx G M R F uc us pc ls st h := fun p e s m args below meth c H locs lsA hC hR hL hl => lv_ldc2 hC.1 hC.2.1 hC.2.2.2.1 (hC.2.2.2.2.2.2.2.2.2.1.use hw rfl args) hd (k p e s m args below meth c H locs lsA hC hR hL hl)
/-- a new name for what lies on top -/
theorem x_top {x y : Int32} (e : x = y) (k : Wx G M R F uc us pc ls (.int y :: st) h) : Wx G M R F uc us pc ls (.int x :: st) h := e ▸ k
end XI
