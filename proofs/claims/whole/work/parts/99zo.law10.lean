/-! the law: each kind of call -/
set_option maxRecDepth 100000 in
set_option maxHeartbeats 4000000 in
theorem cs_feed {G : xG} {uc us : Nat} {h : xHp} {tsz j : Nat} (I : LI h tsz) (hj : 6 * j + 6 ≤ xLn G) (hL : xLn G ≤ 3072) (hu : uc + 3 * tsz ≤ 300 + 66 * j) (hv : us + 16 * tsz ≤ 11000 + 400 * j) (hK : ∀ uc' us' h' tsz', LI h' tsz' → uc' + 3 * tsz' ≤ uc + 3 * tsz + 66 → us' + 16 * tsz' ≤ us + 16 * tsz + 400 → Wx G mL_law room_1 (lawF G) uc' us' 1009 [(0, .ref 0), (1, .ref 1), (2, .ref 205), (3, .ref 226), (4, .int (nI (6 * j)))] [] h') : Wx G mL_law room_1 (lawF G) uc us 160 [(0, .ref 0), (1, .ref 1), (2, .ref 205), (3, .ref 226), (4, .int (nI (6 * j)))] [] h := by
  obtain ⟨fs1, hc1⟩ := I.c1
  refine x_aload_n dL_law_160 rfl ?_
  refine x_aload_n dL_law_161 rfl ?_
  refine x_iload dL_law_162 rfl ?_
  refine x_iconst (v := 1) dL_law_164 (by decide) ?_
  refine x_iadd dL_law_165 ?_
  refine x_top (y := nI ((6 * j) + 1)) (nI_add (6 * j) 1) ?_
  refine x_sld (vp_in_nI (by omega) (by omega)) dL_law_166 ?_
  refine x_top (y := xS G ((6 * j) + 1)) (congrArg (xS G) (nI_clamp (by omega))) ?_
  refine x_aload_n dL_law_167 rfl ?_
  refine x_iload dL_law_168 rfl ?_
  refine x_iconst (v := 2) dL_law_170 (by decide) ?_
  refine x_iadd dL_law_171 ?_
  refine x_top (y := nI ((6 * j) + 2)) (nI_add (6 * j) 2) ?_
  refine x_sld (vp_in_nI (by omega) (by omega)) dL_law_172 ?_
  refine x_top (y := xS G ((6 * j) + 2)) (congrArg (xS G) (nI_clamp (by omega))) ?_
  refine x_aload_n dL_law_173 rfl ?_
  refine x_iload dL_law_174 rfl ?_
  refine x_iconst (v := 3) dL_law_176 (by decide) ?_
  refine x_iadd dL_law_177 ?_
  refine x_top (y := nI ((6 * j) + 3)) (nI_add (6 * j) 3) ?_
  refine x_sld (vp_in_nI (by omega) (by omega)) dL_law_178 ?_
  refine x_top (y := xS G ((6 * j) + 3)) (congrArg (xS G) (nI_clamp (by omega))) ?_
  refine x_aload_n dL_law_179 rfl ?_
  refine x_iload dL_law_180 rfl ?_
  refine x_iconst (v := 4) dL_law_182 (by decide) ?_
  refine x_iadd dL_law_183 ?_
  refine x_top (y := nI ((6 * j) + 4)) (nI_add (6 * j) 4) ?_
  refine x_sld (vp_in_nI (by omega) (by omega)) dL_law_184 ?_
  refine x_top (y := xS G ((6 * j) + 4)) (congrArg (xS G) (nI_clamp (by omega))) ?_
  refine x_aload_n dL_law_185 rfl ?_
  refine x_iload dL_law_186 rfl ?_
  refine x_iconst (v := 5) dL_law_188 (by decide) ?_
  refine x_iadd dL_law_189 ?_
  refine x_top (y := nI ((6 * j) + 5)) (nI_add (6 * j) 5) ?_
  refine x_sld (vp_in_nI (by omega) (by omega)) dL_law_190 ?_
  refine x_top (y := xS G ((6 * j) + 5)) (congrArg (xS G) (nI_clamp (by omega))) ?_
  refine x_callV (As := [.int (xS G ((6 * j) + 1)), .int (xS G ((6 * j) + 2)), .int (xS G ((6 * j) + 3)), .int (xS G ((6 * j) + 4)), .int (xS G ((6 * j) + 5))]) (st := []) lv_L_19 (p_feed I (a := xS G ((6 * j) + 1)) (a2 := xS G ((6 * j) + 2)) (a3 := xS G ((6 * j) + 3)) (a4 := xS G ((6 * j) + 4)) (a5 := xS G ((6 * j) + 5))) dL_law_191 hc1 rfl rfl (Nat.le_of_ble_eq_true rfl) ⟨by decide, by decide⟩ ⟨by show uc + 0 ≤ 601024; omega, by show us + 0 ≤ 7293034; omega⟩ (fun v9 h1 z => ?_) (fun _ _ _ _ _ z => by obtain ⟨_, z, _⟩ := z; cases z)
  obtain ⟨r, ev, ⟨fs2, hc2⟩, mc, ms, hM, hmc, hms⟩ := z
  cases ev
  refine x_aload_n dL_law_194 rfl ?_
  refine x_aload_n dL_law_195 rfl ?_
  refine x_iload dL_law_196 rfl ?_
  refine x_iconst (v := 1) dL_law_198 (by decide) ?_
  refine x_iadd dL_law_199 ?_
  refine x_top (y := nI ((6 * j) + 1)) (nI_add (6 * j) 1) ?_
  refine x_sld (vp_in_nI (by omega) (by omega)) dL_law_200 ?_
  refine x_top (y := xS G ((6 * j) + 1)) (congrArg (xS G) (nI_clamp (by omega))) ?_
  refine x_aload_n dL_law_201 rfl ?_
  refine x_iload dL_law_202 rfl ?_
  refine x_iconst (v := 2) dL_law_204 (by decide) ?_
  refine x_iadd dL_law_205 ?_
  refine x_top (y := nI ((6 * j) + 2)) (nI_add (6 * j) 2) ?_
  refine x_sld (vp_in_nI (by omega) (by omega)) dL_law_206 ?_
  refine x_top (y := xS G ((6 * j) + 2)) (congrArg (xS G) (nI_clamp (by omega))) ?_
  refine x_aload_n dL_law_207 rfl ?_
  refine x_iload dL_law_208 rfl ?_
  refine x_iconst (v := 3) dL_law_210 (by decide) ?_
  refine x_iadd dL_law_211 ?_
  refine x_top (y := nI ((6 * j) + 3)) (nI_add (6 * j) 3) ?_
  refine x_sld (vp_in_nI (by omega) (by omega)) dL_law_212 ?_
  refine x_top (y := xS G ((6 * j) + 3)) (congrArg (xS G) (nI_clamp (by omega))) ?_
  refine x_aload_n dL_law_213 rfl ?_
  refine x_iload dL_law_214 rfl ?_
  refine x_iconst (v := 4) dL_law_216 (by decide) ?_
  refine x_iadd dL_law_217 ?_
  refine x_top (y := nI ((6 * j) + 4)) (nI_add (6 * j) 4) ?_
  refine x_sld (vp_in_nI (by omega) (by omega)) dL_law_218 ?_
  refine x_top (y := xS G ((6 * j) + 4)) (congrArg (xS G) (nI_clamp (by omega))) ?_
  refine x_aload_n dL_law_219 rfl ?_
  refine x_iload dL_law_220 rfl ?_
  refine x_iconst (v := 5) dL_law_222 (by decide) ?_
  refine x_iadd dL_law_223 ?_
  refine x_top (y := nI ((6 * j) + 5)) (nI_add (6 * j) 5) ?_
  refine x_sld (vp_in_nI (by omega) (by omega)) dL_law_224 ?_
  refine x_top (y := xS G ((6 * j) + 5)) (congrArg (xS G) (nI_clamp (by omega))) ?_
  refine x_callV (As := [.int (xS G ((6 * j) + 1)), .int (xS G ((6 * j) + 2)), .int (xS G ((6 * j) + 3)), .int (xS G ((6 * j) + 4)), .int (xS G ((6 * j) + 5))]) (st := [.int r]) lv_L_23 hM dL_law_225 hc2 rfl rfl (Nat.le_of_ble_eq_true rfl) ⟨by decide, by decide⟩ ⟨by show uc + 0 + mc ≤ 601024; omega, by show us + 0 + ms ≤ 7293034; omega⟩ (fun v9 h2 z => ?_) (fun _ _ _ _ _ z => by cases z.1)
  obtain ⟨ev, tsz2, I2, b1, b2⟩ := z
  cases ev
  refine x_icmp_eq 1009 dL_law_228 (by decide) (fun c_228 => ?_) (fun c_228 => absurd rfl c_228)
  exact hK _ _ _ _ I2 (by omega) (by omega)
set_option maxRecDepth 100000 in
set_option maxHeartbeats 4000000 in
theorem cs_tell {G : xG} {uc us : Nat} {h : xHp} {tsz j : Nat} (I : LI h tsz) (hj : 6 * j + 6 ≤ xLn G) (hL : xLn G ≤ 3072) (hu : uc + 3 * tsz ≤ 300 + 66 * j) (hv : us + 16 * tsz ≤ 11000 + 400 * j) (hK : ∀ uc' us' h' tsz', LI h' tsz' → uc' + 3 * tsz' ≤ uc + 3 * tsz + 66 → us' + 16 * tsz' ≤ us + 16 * tsz + 400 → Wx G mL_law room_1 (lawF G) uc' us' 1009 [(0, .ref 0), (1, .ref 1), (2, .ref 205), (3, .ref 226), (4, .int (nI (6 * j)))] [] h') : Wx G mL_law room_1 (lawF G) uc us 233 [(0, .ref 0), (1, .ref 1), (2, .ref 205), (3, .ref 226), (4, .int (nI (6 * j)))] [] h := by
  obtain ⟨fs1, hc1⟩ := I.c1
  refine x_aload_n dL_law_233 rfl ?_
  refine x_aload_n dL_law_234 rfl ?_
  refine x_iload dL_law_235 rfl ?_
  refine x_iconst (v := 1) dL_law_237 (by decide) ?_
  refine x_iadd dL_law_238 ?_
  refine x_top (y := nI ((6 * j) + 1)) (nI_add (6 * j) 1) ?_
  refine x_sld (vp_in_nI (by omega) (by omega)) dL_law_239 ?_
  refine x_top (y := xS G ((6 * j) + 1)) (congrArg (xS G) (nI_clamp (by omega))) ?_
  refine x_callV (As := [.int (xS G ((6 * j) + 1))]) (st := []) lv_L_24 (p_tell I (a := xS G ((6 * j) + 1))) dL_law_240 hc1 rfl rfl (Nat.le_of_ble_eq_true rfl) ⟨by decide, by decide⟩ ⟨by show uc + 0 ≤ 601024; omega, by show us + 0 ≤ 7293034; omega⟩ (fun v9 h1 z => ?_) (fun _ _ _ _ _ z => by obtain ⟨_, z, _⟩ := z; cases z)
  obtain ⟨r, ev, ⟨fs2, hc2⟩, mc, ms, hM, hmc, hms⟩ := z
  cases ev
  refine x_aload_n dL_law_243 rfl ?_
  refine x_aload_n dL_law_244 rfl ?_
  refine x_iload dL_law_245 rfl ?_
  refine x_iconst (v := 1) dL_law_247 (by decide) ?_
  refine x_iadd dL_law_248 ?_
  refine x_top (y := nI ((6 * j) + 1)) (nI_add (6 * j) 1) ?_
  refine x_sld (vp_in_nI (by omega) (by omega)) dL_law_249 ?_
  refine x_top (y := xS G ((6 * j) + 1)) (congrArg (xS G) (nI_clamp (by omega))) ?_
  refine x_callVH (As := [.int (xS G ((6 * j) + 1))]) (st := [.int r]) lvH_L_28 hM dL_law_250 hc2 rfl rfl (Nat.le_of_ble_eq_true rfl) ⟨by decide, by decide⟩ ⟨by show uc + 0 + mc ≤ 601024; omega, by show us + 0 + ms ≤ 7293034; omega⟩ (fun v9 h2 z => ?_) (fun _ _ _ _ _ z => by cases z.1)
  obtain ⟨ev, tsz2, I2, b1, b2⟩ := z
  cases ev
  refine x_icmp_eq 1009 dL_law_253 (by decide) (fun c_253 => ?_) (fun c_253 => absurd rfl c_253)
  exact hK _ _ _ _ I2 (by omega) (by omega)
set_option maxRecDepth 100000 in
set_option maxHeartbeats 4000000 in
theorem cs_fault {G : xG} {uc us : Nat} {h : xHp} {tsz j : Nat} (I : LI h tsz) (hj : 6 * j + 6 ≤ xLn G) (hL : xLn G ≤ 3072) (hu : uc + 3 * tsz ≤ 300 + 66 * j) (hv : us + 16 * tsz ≤ 11000 + 400 * j) (hK : ∀ uc' us' h' tsz', LI h' tsz' → uc' + 3 * tsz' ≤ uc + 3 * tsz + 66 → us' + 16 * tsz' ≤ us + 16 * tsz + 400 → Wx G mL_law room_1 (lawF G) uc' us' 1009 [(0, .ref 0), (1, .ref 1), (2, .ref 205), (3, .ref 226), (4, .int (nI (6 * j)))] [] h') : Wx G mL_law room_1 (lawF G) uc us 258 [(0, .ref 0), (1, .ref 1), (2, .ref 205), (3, .ref 226), (4, .int (nI (6 * j)))] [] h := by
  obtain ⟨fs1, hc1⟩ := I.c1
  refine x_aload_n dL_law_258 rfl ?_
  refine x_callV (As := []) (st := []) lv_L_29 (p_fault I ) dL_law_259 hc1 rfl rfl (Nat.le_of_ble_eq_true rfl) ⟨by decide, by decide⟩ ⟨by show uc + 0 ≤ 601024; omega, by show us + 0 ≤ 7293034; omega⟩ (fun v9 h1 z => ?_) (fun _ _ _ _ _ z => by obtain ⟨_, z, _⟩ := z; cases z)
  obtain ⟨r, ev, ⟨fs2, hc2⟩, mc, ms, hM, hmc, hms⟩ := z
  cases ev
  refine x_aload_n dL_law_262 rfl ?_
  refine x_callV (As := []) (st := [.int r]) lv_L_33 hM dL_law_263 hc2 rfl rfl (Nat.le_of_ble_eq_true rfl) ⟨by decide, by decide⟩ ⟨by show uc + 0 + mc ≤ 601024; omega, by show us + 0 + ms ≤ 7293034; omega⟩ (fun v9 h2 z => ?_) (fun _ _ _ _ _ z => by cases z.1)
  obtain ⟨ev, tsz2, I2, b1, b2⟩ := z
  cases ev
  refine x_icmp_eq 1009 dL_law_266 (by decide) (fun c_266 => ?_) (fun c_266 => absurd rfl c_266)
  exact hK _ _ _ _ I2 (by omega) (by omega)
set_option maxRecDepth 100000 in
set_option maxHeartbeats 4000000 in
theorem cs_where {G : xG} {uc us : Nat} {h : xHp} {tsz j : Nat} (I : LI h tsz) (hj : 6 * j + 6 ≤ xLn G) (hL : xLn G ≤ 3072) (hu : uc + 3 * tsz ≤ 300 + 66 * j) (hv : us + 16 * tsz ≤ 11000 + 400 * j) (hK : ∀ uc' us' h' tsz', LI h' tsz' → uc' + 3 * tsz' ≤ uc + 3 * tsz + 66 → us' + 16 * tsz' ≤ us + 16 * tsz + 400 → Wx G mL_law room_1 (lawF G) uc' us' 1009 [(0, .ref 0), (1, .ref 1), (2, .ref 205), (3, .ref 226), (4, .int (nI (6 * j)))] [] h') : Wx G mL_law room_1 (lawF G) uc us 271 [(0, .ref 0), (1, .ref 1), (2, .ref 205), (3, .ref 226), (4, .int (nI (6 * j)))] [] h := by
  obtain ⟨fs1, hc1⟩ := I.c1
  refine x_aload_n dL_law_271 rfl ?_
  refine x_callV (As := []) (st := []) lv_L_34 (p_where I ) dL_law_272 hc1 rfl rfl (Nat.le_of_ble_eq_true rfl) ⟨by decide, by decide⟩ ⟨by show uc + 0 ≤ 601024; omega, by show us + 0 ≤ 7293034; omega⟩ (fun v9 h1 z => ?_) (fun _ _ _ _ _ z => by obtain ⟨_, z, _⟩ := z; cases z)
  obtain ⟨r, ev, ⟨fs2, hc2⟩, mc, ms, hM, hmc, hms⟩ := z
  cases ev
  refine x_aload_n dL_law_275 rfl ?_
  refine x_callV (As := []) (st := [.int r]) lv_L_37 hM dL_law_276 hc2 rfl rfl (Nat.le_of_ble_eq_true rfl) ⟨by decide, by decide⟩ ⟨by show uc + 0 + mc ≤ 601024; omega, by show us + 0 + ms ≤ 7293034; omega⟩ (fun v9 h2 z => ?_) (fun _ _ _ _ _ z => by cases z.1)
  obtain ⟨ev, tsz2, I2, b1, b2⟩ := z
  cases ev
  refine x_icmp_eq 1009 dL_law_279 (by decide) (fun c_279 => ?_) (fun c_279 => absurd rfl c_279)
  exact hK _ _ _ _ I2 (by omega) (by omega)
set_option maxRecDepth 100000 in
set_option maxHeartbeats 4000000 in
theorem cs_atom {G : xG} {uc us : Nat} {h : xHp} {tsz j : Nat} (I : LI h tsz) (hj : 6 * j + 6 ≤ xLn G) (hL : xLn G ≤ 3072) (hu : uc + 3 * tsz ≤ 300 + 66 * j) (hv : us + 16 * tsz ≤ 11000 + 400 * j) (hK : ∀ uc' us' h' tsz', LI h' tsz' → uc' + 3 * tsz' ≤ uc + 3 * tsz + 66 → us' + 16 * tsz' ≤ us + 16 * tsz + 400 → Wx G mL_law room_1 (lawF G) uc' us' 1009 [(0, .ref 0), (1, .ref 1), (2, .ref 205), (3, .ref 226), (4, .int (nI (6 * j)))] [] h') : Wx G mL_law room_1 (lawF G) uc us 284 [(0, .ref 0), (1, .ref 1), (2, .ref 205), (3, .ref 226), (4, .int (nI (6 * j)))] [] h := by
  obtain ⟨fs1, hc1⟩ := I.c1
  refine x_aload_n dL_law_284 rfl ?_
  refine x_aload_n dL_law_285 rfl ?_
  refine x_iload dL_law_286 rfl ?_
  refine x_iconst (v := 1) dL_law_288 (by decide) ?_
  refine x_iadd dL_law_289 ?_
  refine x_top (y := nI ((6 * j) + 1)) (nI_add (6 * j) 1) ?_
  refine x_sld (vp_in_nI (by omega) (by omega)) dL_law_290 ?_
  refine x_top (y := xS G ((6 * j) + 1)) (congrArg (xS G) (nI_clamp (by omega))) ?_
  refine x_aload_n dL_law_291 rfl ?_
  refine x_iload dL_law_292 rfl ?_
  refine x_iconst (v := 2) dL_law_294 (by decide) ?_
  refine x_iadd dL_law_295 ?_
  refine x_top (y := nI ((6 * j) + 2)) (nI_add (6 * j) 2) ?_
  refine x_sld (vp_in_nI (by omega) (by omega)) dL_law_296 ?_
  refine x_top (y := xS G ((6 * j) + 2)) (congrArg (xS G) (nI_clamp (by omega))) ?_
  refine x_aload_n dL_law_297 rfl ?_
  refine x_iload dL_law_298 rfl ?_
  refine x_iconst (v := 3) dL_law_300 (by decide) ?_
  refine x_iadd dL_law_301 ?_
  refine x_top (y := nI ((6 * j) + 3)) (nI_add (6 * j) 3) ?_
  refine x_sld (vp_in_nI (by omega) (by omega)) dL_law_302 ?_
  refine x_top (y := xS G ((6 * j) + 3)) (congrArg (xS G) (nI_clamp (by omega))) ?_
  refine x_callV (As := [.int (xS G ((6 * j) + 1)), .int (xS G ((6 * j) + 2)), .int (xS G ((6 * j) + 3))]) (st := []) lv_L_38 (p_atom I (a := xS G ((6 * j) + 1)) (a2 := xS G ((6 * j) + 2)) (a3 := xS G ((6 * j) + 3))) dL_law_303 hc1 rfl rfl (Nat.le_of_ble_eq_true rfl) ⟨by decide, by decide⟩ ⟨by show uc + 0 ≤ 601024; omega, by show us + 0 ≤ 7293034; omega⟩ (fun v9 h1 z => ?_) (fun _ _ _ _ _ z => by obtain ⟨_, z, _⟩ := z; cases z)
  obtain ⟨r, ev, ⟨fs2, hc2⟩, mc, ms, hM, hmc, hms⟩ := z
  cases ev
  refine x_aload_n dL_law_306 rfl ?_
  refine x_aload_n dL_law_307 rfl ?_
  refine x_iload dL_law_308 rfl ?_
  refine x_iconst (v := 1) dL_law_310 (by decide) ?_
  refine x_iadd dL_law_311 ?_
  refine x_top (y := nI ((6 * j) + 1)) (nI_add (6 * j) 1) ?_
  refine x_sld (vp_in_nI (by omega) (by omega)) dL_law_312 ?_
  refine x_top (y := xS G ((6 * j) + 1)) (congrArg (xS G) (nI_clamp (by omega))) ?_
  refine x_aload_n dL_law_313 rfl ?_
  refine x_iload dL_law_314 rfl ?_
  refine x_iconst (v := 2) dL_law_316 (by decide) ?_
  refine x_iadd dL_law_317 ?_
  refine x_top (y := nI ((6 * j) + 2)) (nI_add (6 * j) 2) ?_
  refine x_sld (vp_in_nI (by omega) (by omega)) dL_law_318 ?_
  refine x_top (y := xS G ((6 * j) + 2)) (congrArg (xS G) (nI_clamp (by omega))) ?_
  refine x_aload_n dL_law_319 rfl ?_
  refine x_iload dL_law_320 rfl ?_
  refine x_iconst (v := 3) dL_law_322 (by decide) ?_
  refine x_iadd dL_law_323 ?_
  refine x_top (y := nI ((6 * j) + 3)) (nI_add (6 * j) 3) ?_
  refine x_sld (vp_in_nI (by omega) (by omega)) dL_law_324 ?_
  refine x_top (y := xS G ((6 * j) + 3)) (congrArg (xS G) (nI_clamp (by omega))) ?_
  refine x_callV (As := [.int (xS G ((6 * j) + 1)), .int (xS G ((6 * j) + 2)), .int (xS G ((6 * j) + 3))]) (st := [.int r]) lv_L_42 hM dL_law_325 hc2 rfl rfl (Nat.le_of_ble_eq_true rfl) ⟨by decide, by decide⟩ ⟨by show uc + 0 + mc ≤ 601024; omega, by show us + 0 + ms ≤ 7293034; omega⟩ (fun v9 h2 z => ?_) (fun _ _ _ _ _ z => by cases z.1)
  obtain ⟨ev, tsz2, I2, b1, b2⟩ := z
  cases ev
  refine x_icmp_eq 1009 dL_law_328 (by decide) (fun c_328 => ?_) (fun c_328 => absurd rfl c_328)
  exact hK _ _ _ _ I2 (by omega) (by omega)
set_option maxRecDepth 100000 in
set_option maxHeartbeats 4000000 in
theorem cs_places {G : xG} {uc us : Nat} {h : xHp} {tsz j : Nat} (I : LI h tsz) (hj : 6 * j + 6 ≤ xLn G) (hL : xLn G ≤ 3072) (hu : uc + 3 * tsz ≤ 300 + 66 * j) (hv : us + 16 * tsz ≤ 11000 + 400 * j) (hK : ∀ uc' us' h' tsz', LI h' tsz' → uc' + 3 * tsz' ≤ uc + 3 * tsz + 66 → us' + 16 * tsz' ≤ us + 16 * tsz + 400 → Wx G mL_law room_1 (lawF G) uc' us' 1009 [(0, .ref 0), (1, .ref 1), (2, .ref 205), (3, .ref 226), (4, .int (nI (6 * j)))] [] h') : Wx G mL_law room_1 (lawF G) uc us 429 [(0, .ref 0), (1, .ref 1), (2, .ref 205), (3, .ref 226), (4, .int (nI (6 * j)))] [] h := by
  obtain ⟨fs1, hc1⟩ := I.c1
  refine x_aload_n dL_law_429 rfl ?_
  refine x_aload_n dL_law_430 rfl ?_
  refine x_iload dL_law_431 rfl ?_
  refine x_iconst (v := 1) dL_law_433 (by decide) ?_
  refine x_iadd dL_law_434 ?_
  refine x_top (y := nI ((6 * j) + 1)) (nI_add (6 * j) 1) ?_
  refine x_sld (vp_in_nI (by omega) (by omega)) dL_law_435 ?_
  refine x_top (y := xS G ((6 * j) + 1)) (congrArg (xS G) (nI_clamp (by omega))) ?_
  refine x_callV (As := [.int (xS G ((6 * j) + 1))]) (st := []) lv_L_52 (p_places I (a := xS G ((6 * j) + 1))) dL_law_436 hc1 rfl rfl (Nat.le_of_ble_eq_true rfl) ⟨by decide, by decide⟩ ⟨by show uc + 0 ≤ 601024; omega, by show us + 0 ≤ 7293034; omega⟩ (fun v9 h1 z => ?_) (fun _ _ _ _ _ z => by obtain ⟨_, z, _⟩ := z; cases z)
  obtain ⟨r, ev, ⟨fs2, hc2⟩, mc, ms, hM, hmc, hms⟩ := z
  cases ev
  refine x_aload_n dL_law_439 rfl ?_
  refine x_aload_n dL_law_440 rfl ?_
  refine x_iload dL_law_441 rfl ?_
  refine x_iconst (v := 1) dL_law_443 (by decide) ?_
  refine x_iadd dL_law_444 ?_
  refine x_top (y := nI ((6 * j) + 1)) (nI_add (6 * j) 1) ?_
  refine x_sld (vp_in_nI (by omega) (by omega)) dL_law_445 ?_
  refine x_top (y := xS G ((6 * j) + 1)) (congrArg (xS G) (nI_clamp (by omega))) ?_
  refine x_callV (As := [.int (xS G ((6 * j) + 1))]) (st := [.int r]) lv_L_55 hM dL_law_446 hc2 rfl rfl (Nat.le_of_ble_eq_true rfl) ⟨by decide, by decide⟩ ⟨by show uc + 0 + mc ≤ 601024; omega, by show us + 0 + ms ≤ 7293034; omega⟩ (fun v9 h2 z => ?_) (fun _ _ _ _ _ z => by cases z.1)
  obtain ⟨ev, tsz2, I2, b1, b2⟩ := z
  cases ev
  refine x_icmp_eq 1009 dL_law_449 (by decide) (fun c_449 => ?_) (fun c_449 => absurd rfl c_449)
  exact hK _ _ _ _ I2 (by omega) (by omega)
set_option maxRecDepth 100000 in
set_option maxHeartbeats 4000000 in
theorem cs_layer {G : xG} {uc us : Nat} {h : xHp} {tsz j : Nat} (I : LI h tsz) (hj : 6 * j + 6 ≤ xLn G) (hL : xLn G ≤ 3072) (hu : uc + 3 * tsz ≤ 300 + 66 * j) (hv : us + 16 * tsz ≤ 11000 + 400 * j) (hK : ∀ uc' us' h' tsz', LI h' tsz' → uc' + 3 * tsz' ≤ uc + 3 * tsz + 66 → us' + 16 * tsz' ≤ us + 16 * tsz + 400 → Wx G mL_law room_1 (lawF G) uc' us' 1009 [(0, .ref 0), (1, .ref 1), (2, .ref 205), (3, .ref 226), (4, .int (nI (6 * j)))] [] h') : Wx G mL_law room_1 (lawF G) uc us 454 [(0, .ref 0), (1, .ref 1), (2, .ref 205), (3, .ref 226), (4, .int (nI (6 * j)))] [] h := by
  obtain ⟨fs1, hc1⟩ := I.c1
  refine x_aload_n dL_law_454 rfl ?_
  refine x_aload_n dL_law_455 rfl ?_
  refine x_iload dL_law_456 rfl ?_
  refine x_iconst (v := 1) dL_law_458 (by decide) ?_
  refine x_iadd dL_law_459 ?_
  refine x_top (y := nI ((6 * j) + 1)) (nI_add (6 * j) 1) ?_
  refine x_sld (vp_in_nI (by omega) (by omega)) dL_law_460 ?_
  refine x_top (y := xS G ((6 * j) + 1)) (congrArg (xS G) (nI_clamp (by omega))) ?_
  refine x_callV (As := [.int (xS G ((6 * j) + 1))]) (st := []) lv_L_56 (p_layer I (a := xS G ((6 * j) + 1))) dL_law_461 hc1 rfl rfl (Nat.le_of_ble_eq_true rfl) ⟨by decide, by decide⟩ ⟨by show uc + 0 ≤ 601024; omega, by show us + 0 ≤ 7293034; omega⟩ (fun v9 h1 z => ?_) (fun _ _ _ _ _ z => by obtain ⟨_, z, _⟩ := z; cases z)
  obtain ⟨r, ev, ⟨fs2, hc2⟩, mc, ms, hM, hmc, hms⟩ := z
  cases ev
  refine x_aload_n dL_law_464 rfl ?_
  refine x_aload_n dL_law_465 rfl ?_
  refine x_iload dL_law_466 rfl ?_
  refine x_iconst (v := 1) dL_law_468 (by decide) ?_
  refine x_iadd dL_law_469 ?_
  refine x_top (y := nI ((6 * j) + 1)) (nI_add (6 * j) 1) ?_
  refine x_sld (vp_in_nI (by omega) (by omega)) dL_law_470 ?_
  refine x_top (y := xS G ((6 * j) + 1)) (congrArg (xS G) (nI_clamp (by omega))) ?_
  refine x_callV (As := [.int (xS G ((6 * j) + 1))]) (st := [.int r]) lv_L_59 hM dL_law_471 hc2 rfl rfl (Nat.le_of_ble_eq_true rfl) ⟨by decide, by decide⟩ ⟨by show uc + 0 + mc ≤ 601024; omega, by show us + 0 + ms ≤ 7293034; omega⟩ (fun v9 h2 z => ?_) (fun _ _ _ _ _ z => by cases z.1)
  obtain ⟨ev, tsz2, I2, b1, b2⟩ := z
  cases ev
  refine x_icmp_eq 1009 dL_law_474 (by decide) (fun c_474 => ?_) (fun c_474 => absurd rfl c_474)
  exact hK _ _ _ _ I2 (by omega) (by omega)
set_option maxRecDepth 100000 in
set_option maxHeartbeats 4000000 in
theorem cs_fact {G : xG} {uc us : Nat} {h : xHp} {tsz j : Nat} (I : LI h tsz) (hj : 6 * j + 6 ≤ xLn G) (hL : xLn G ≤ 3072) (hu : uc + 3 * tsz ≤ 300 + 66 * j) (hv : us + 16 * tsz ≤ 11000 + 400 * j) (hK : ∀ uc' us' h' tsz', LI h' tsz' → uc' + 3 * tsz' ≤ uc + 3 * tsz + 66 → us' + 16 * tsz' ≤ us + 16 * tsz + 400 → Wx G mL_law room_1 (lawF G) uc' us' 1009 [(0, .ref 0), (1, .ref 1), (2, .ref 205), (3, .ref 226), (4, .int (nI (6 * j)))] [] h') : Wx G mL_law room_1 (lawF G) uc us 479 [(0, .ref 0), (1, .ref 1), (2, .ref 205), (3, .ref 226), (4, .int (nI (6 * j)))] [] h := by
  obtain ⟨fs1, hc1⟩ := I.c1
  refine x_aload_n dL_law_479 rfl ?_
  refine x_aload_n dL_law_480 rfl ?_
  refine x_iload dL_law_481 rfl ?_
  refine x_iconst (v := 1) dL_law_483 (by decide) ?_
  refine x_iadd dL_law_484 ?_
  refine x_top (y := nI ((6 * j) + 1)) (nI_add (6 * j) 1) ?_
  refine x_sld (vp_in_nI (by omega) (by omega)) dL_law_485 ?_
  refine x_top (y := xS G ((6 * j) + 1)) (congrArg (xS G) (nI_clamp (by omega))) ?_
  refine x_aload_n dL_law_486 rfl ?_
  refine x_iload dL_law_487 rfl ?_
  refine x_iconst (v := 2) dL_law_489 (by decide) ?_
  refine x_iadd dL_law_490 ?_
  refine x_top (y := nI ((6 * j) + 2)) (nI_add (6 * j) 2) ?_
  refine x_sld (vp_in_nI (by omega) (by omega)) dL_law_491 ?_
  refine x_top (y := xS G ((6 * j) + 2)) (congrArg (xS G) (nI_clamp (by omega))) ?_
  refine x_if_eq 499 dL_law_492 (by decide) (fun c_492 => ?_) (fun c_492 => ?_)
  · refine x_iconst (v := 0) dL_law_499 (by decide) ?_
    refine x_callV (As := [.int (xS G ((6 * j) + 1)), .int (bi false)]) (st := []) lv_L_60 (p_fact I (a := xS G ((6 * j) + 1)) (v := false)) dL_law_500 hc1 rfl rfl (Nat.le_of_ble_eq_true rfl) ⟨by decide, by decide⟩ ⟨by show uc + 0 ≤ 601024; omega, by show us + 0 ≤ 7293034; omega⟩ (fun v9 h1 z => ?_) (fun _ _ _ _ _ z => by obtain ⟨_, z, _⟩ := z; cases z)
    obtain ⟨r, ev, ⟨fs2, hc2⟩, mc, ms, hM, hmc, hms⟩ := z
    cases ev
    refine x_aload_n dL_law_503 rfl ?_
    refine x_aload_n dL_law_504 rfl ?_
    refine x_iload dL_law_505 rfl ?_
    refine x_iconst (v := 1) dL_law_507 (by decide) ?_
    refine x_iadd dL_law_508 ?_
    refine x_top (y := nI ((6 * j) + 1)) (nI_add (6 * j) 1) ?_
    refine x_sld (vp_in_nI (by omega) (by omega)) dL_law_509 ?_
    refine x_top (y := xS G ((6 * j) + 1)) (congrArg (xS G) (nI_clamp (by omega))) ?_
    refine x_aload_n dL_law_510 rfl ?_
    refine x_iload dL_law_511 rfl ?_
    refine x_iconst (v := 2) dL_law_513 (by decide) ?_
    refine x_iadd dL_law_514 ?_
    refine x_top (y := nI ((6 * j) + 2)) (nI_add (6 * j) 2) ?_
    refine x_sld (vp_in_nI (by omega) (by omega)) dL_law_515 ?_
    refine x_top (y := xS G ((6 * j) + 2)) (congrArg (xS G) (nI_clamp (by omega))) ?_
    refine x_if_eq 523 dL_law_516 (by decide) (fun c_516 => ?_) (fun c_516 => absurd c_492 c_516)
    refine x_iconst (v := 0) dL_law_523 (by decide) ?_
    refine x_callV (As := [.int (xS G ((6 * j) + 1)), .int (bi false)]) (st := [.int r]) lv_L_64 hM dL_law_524 hc2 rfl rfl (Nat.le_of_ble_eq_true rfl) ⟨by decide, by decide⟩ ⟨by show uc + 0 + mc ≤ 601024; omega, by show us + 0 + ms ≤ 7293034; omega⟩ (fun v9 h2 z => ?_) (fun _ _ _ _ _ z => by cases z.1)
    obtain ⟨ev, tsz2, I2, b1, b2⟩ := z
    cases ev
    refine x_icmp_eq 1009 dL_law_527 (by decide) (fun c_527 => ?_) (fun c_527 => absurd rfl c_527)
    exact hK _ _ _ _ I2 (by omega) (by omega)
  · refine x_iconst (v := 1) dL_law_495 (by decide) ?_
    refine x_goto 500 dL_law_496 (by decide) ?_
    refine x_callV (As := [.int (xS G ((6 * j) + 1)), .int (bi true)]) (st := []) lv_L_60 (p_fact I (a := xS G ((6 * j) + 1)) (v := true)) dL_law_500 hc1 rfl rfl (Nat.le_of_ble_eq_true rfl) ⟨by decide, by decide⟩ ⟨by show uc + 0 ≤ 601024; omega, by show us + 0 ≤ 7293034; omega⟩ (fun v9 h1 z => ?_) (fun _ _ _ _ _ z => by obtain ⟨_, z, _⟩ := z; cases z)
    obtain ⟨r, ev, ⟨fs2, hc2⟩, mc, ms, hM, hmc, hms⟩ := z
    cases ev
    refine x_aload_n dL_law_503 rfl ?_
    refine x_aload_n dL_law_504 rfl ?_
    refine x_iload dL_law_505 rfl ?_
    refine x_iconst (v := 1) dL_law_507 (by decide) ?_
    refine x_iadd dL_law_508 ?_
    refine x_top (y := nI ((6 * j) + 1)) (nI_add (6 * j) 1) ?_
    refine x_sld (vp_in_nI (by omega) (by omega)) dL_law_509 ?_
    refine x_top (y := xS G ((6 * j) + 1)) (congrArg (xS G) (nI_clamp (by omega))) ?_
    refine x_aload_n dL_law_510 rfl ?_
    refine x_iload dL_law_511 rfl ?_
    refine x_iconst (v := 2) dL_law_513 (by decide) ?_
    refine x_iadd dL_law_514 ?_
    refine x_top (y := nI ((6 * j) + 2)) (nI_add (6 * j) 2) ?_
    refine x_sld (vp_in_nI (by omega) (by omega)) dL_law_515 ?_
    refine x_top (y := xS G ((6 * j) + 2)) (congrArg (xS G) (nI_clamp (by omega))) ?_
    refine x_if_eq 523 dL_law_516 (by decide) (fun c_516 => absurd c_516 c_492) (fun c_516 => ?_)
    refine x_iconst (v := 1) dL_law_519 (by decide) ?_
    refine x_goto 524 dL_law_520 (by decide) ?_
    refine x_callV (As := [.int (xS G ((6 * j) + 1)), .int (bi true)]) (st := [.int r]) lv_L_64 hM dL_law_524 hc2 rfl rfl (Nat.le_of_ble_eq_true rfl) ⟨by decide, by decide⟩ ⟨by show uc + 0 + mc ≤ 601024; omega, by show us + 0 + ms ≤ 7293034; omega⟩ (fun v9 h2 z => ?_) (fun _ _ _ _ _ z => by cases z.1)
    obtain ⟨ev, tsz2, I2, b1, b2⟩ := z
    cases ev
    refine x_icmp_eq 1009 dL_law_527 (by decide) (fun c_527 => ?_) (fun c_527 => absurd rfl c_527)
    exact hK _ _ _ _ I2 (by omega) (by omega)
set_option maxRecDepth 100000 in
set_option maxHeartbeats 4000000 in
theorem cs_drop {G : xG} {uc us : Nat} {h : xHp} {tsz j : Nat} (I : LI h tsz) (hj : 6 * j + 6 ≤ xLn G) (hL : xLn G ≤ 3072) (hu : uc + 3 * tsz ≤ 300 + 66 * j) (hv : us + 16 * tsz ≤ 11000 + 400 * j) (hK : ∀ uc' us' h' tsz', LI h' tsz' → uc' + 3 * tsz' ≤ uc + 3 * tsz + 66 → us' + 16 * tsz' ≤ us + 16 * tsz + 400 → Wx G mL_law room_1 (lawF G) uc' us' 1009 [(0, .ref 0), (1, .ref 1), (2, .ref 205), (3, .ref 226), (4, .int (nI (6 * j)))] [] h') : Wx G mL_law room_1 (lawF G) uc us 532 [(0, .ref 0), (1, .ref 1), (2, .ref 205), (3, .ref 226), (4, .int (nI (6 * j)))] [] h := by
  obtain ⟨fs1, hc1⟩ := I.c1
  refine x_aload_n dL_law_532 rfl ?_
  refine x_aload_n dL_law_533 rfl ?_
  refine x_iload dL_law_534 rfl ?_
  refine x_iconst (v := 1) dL_law_536 (by decide) ?_
  refine x_iadd dL_law_537 ?_
  refine x_top (y := nI ((6 * j) + 1)) (nI_add (6 * j) 1) ?_
  refine x_sld (vp_in_nI (by omega) (by omega)) dL_law_538 ?_
  refine x_top (y := xS G ((6 * j) + 1)) (congrArg (xS G) (nI_clamp (by omega))) ?_
  refine x_callV (As := [.int (xS G ((6 * j) + 1))]) (st := []) lv_L_65 (p_drop I (a := xS G ((6 * j) + 1))) dL_law_539 hc1 rfl rfl (Nat.le_of_ble_eq_true rfl) ⟨by decide, by decide⟩ ⟨by show uc + 0 ≤ 601024; omega, by show us + 0 ≤ 7293034; omega⟩ (fun v9 h1 z => ?_) (fun _ _ _ _ _ z => by obtain ⟨_, z, _⟩ := z; cases z)
  obtain ⟨r, ev, ⟨fs2, hc2⟩, mc, ms, hM, hmc, hms⟩ := z
  cases ev
  refine x_aload_n dL_law_542 rfl ?_
  refine x_aload_n dL_law_543 rfl ?_
  refine x_iload dL_law_544 rfl ?_
  refine x_iconst (v := 1) dL_law_546 (by decide) ?_
  refine x_iadd dL_law_547 ?_
  refine x_top (y := nI ((6 * j) + 1)) (nI_add (6 * j) 1) ?_
  refine x_sld (vp_in_nI (by omega) (by omega)) dL_law_548 ?_
  refine x_top (y := xS G ((6 * j) + 1)) (congrArg (xS G) (nI_clamp (by omega))) ?_
  refine x_callV (As := [.int (xS G ((6 * j) + 1))]) (st := [.int r]) lv_L_69 hM dL_law_549 hc2 rfl rfl (Nat.le_of_ble_eq_true rfl) ⟨by decide, by decide⟩ ⟨by show uc + 0 + mc ≤ 601024; omega, by show us + 0 + ms ≤ 7293034; omega⟩ (fun v9 h2 z => ?_) (fun _ _ _ _ _ z => by cases z.1)
  obtain ⟨ev, tsz2, I2, b1, b2⟩ := z
  cases ev
  refine x_icmp_eq 1009 dL_law_552 (by decide) (fun c_552 => ?_) (fun c_552 => absurd rfl c_552)
  exact hK _ _ _ _ I2 (by omega) (by omega)
set_option maxRecDepth 100000 in
set_option maxHeartbeats 4000000 in
theorem cs_follows {G : xG} {uc us : Nat} {h : xHp} {tsz j : Nat} (I : LI h tsz) (hj : 6 * j + 6 ≤ xLn G) (hL : xLn G ≤ 3072) (hu : uc + 3 * tsz ≤ 300 + 66 * j) (hv : us + 16 * tsz ≤ 11000 + 400 * j) (hK : ∀ uc' us' h' tsz', LI h' tsz' → uc' + 3 * tsz' ≤ uc + 3 * tsz + 66 → us' + 16 * tsz' ≤ us + 16 * tsz + 400 → Wx G mL_law room_1 (lawF G) uc' us' 1009 [(0, .ref 0), (1, .ref 1), (2, .ref 205), (3, .ref 226), (4, .int (nI (6 * j)))] [] h') : Wx G mL_law room_1 (lawF G) uc us 557 [(0, .ref 0), (1, .ref 1), (2, .ref 205), (3, .ref 226), (4, .int (nI (6 * j)))] [] h := by
  obtain ⟨fs1, hc1⟩ := I.c1
  refine x_aload_n dL_law_557 rfl ?_
  refine x_aload_n dL_law_558 rfl ?_
  refine x_iload dL_law_559 rfl ?_
  refine x_iconst (v := 1) dL_law_561 (by decide) ?_
  refine x_iadd dL_law_562 ?_
  refine x_top (y := nI ((6 * j) + 1)) (nI_add (6 * j) 1) ?_
  refine x_sld (vp_in_nI (by omega) (by omega)) dL_law_563 ?_
  refine x_top (y := xS G ((6 * j) + 1)) (congrArg (xS G) (nI_clamp (by omega))) ?_
  refine x_callV (As := [.int (xS G ((6 * j) + 1))]) (st := []) lv_L_70 (p_follows I (a := xS G ((6 * j) + 1))) dL_law_564 hc1 rfl rfl (Nat.le_of_ble_eq_true rfl) ⟨by decide, by decide⟩ ⟨by show uc + 0 ≤ 601024; omega, by show us + 0 ≤ 7293034; omega⟩ (fun v9 h1 z => ?_) (fun _ _ _ _ _ z => by obtain ⟨_, z, _⟩ := z; cases z)
  obtain ⟨r, ev, ⟨fs2, hc2⟩, mc, ms, hM, hmc, hms⟩ := z
  cases ev
  refine x_aload_n dL_law_567 rfl ?_
  refine x_aload_n dL_law_568 rfl ?_
  refine x_iload dL_law_569 rfl ?_
  refine x_iconst (v := 1) dL_law_571 (by decide) ?_
  refine x_iadd dL_law_572 ?_
  refine x_top (y := nI ((6 * j) + 1)) (nI_add (6 * j) 1) ?_
  refine x_sld (vp_in_nI (by omega) (by omega)) dL_law_573 ?_
  refine x_top (y := xS G ((6 * j) + 1)) (congrArg (xS G) (nI_clamp (by omega))) ?_
  refine x_callV (As := [.int (xS G ((6 * j) + 1))]) (st := [.int r]) lv_L_73 hM dL_law_574 hc2 rfl rfl (Nat.le_of_ble_eq_true rfl) ⟨by decide, by decide⟩ ⟨by show uc + 0 + mc ≤ 601024; omega, by show us + 0 + ms ≤ 7293034; omega⟩ (fun v9 h2 z => ?_) (fun _ _ _ _ _ z => by cases z.1)
  obtain ⟨ev, tsz2, I2, b1, b2⟩ := z
  cases ev
  refine x_icmp_eq 1009 dL_law_577 (by decide) (fun c_577 => ?_) (fun c_577 => absurd rfl c_577)
  exact hK _ _ _ _ I2 (by omega) (by omega)
set_option maxRecDepth 100000 in
set_option maxHeartbeats 4000000 in
theorem cs_many {G : xG} {uc us : Nat} {h : xHp} {tsz j : Nat} (I : LI h tsz) (hj : 6 * j + 6 ≤ xLn G) (hL : xLn G ≤ 3072) (hu : uc + 3 * tsz ≤ 300 + 66 * j) (hv : us + 16 * tsz ≤ 11000 + 400 * j) (hK : ∀ uc' us' h' tsz', LI h' tsz' → uc' + 3 * tsz' ≤ uc + 3 * tsz + 66 → us' + 16 * tsz' ≤ us + 16 * tsz + 400 → Wx G mL_law room_1 (lawF G) uc' us' 1009 [(0, .ref 0), (1, .ref 1), (2, .ref 205), (3, .ref 226), (4, .int (nI (6 * j)))] [] h') : Wx G mL_law room_1 (lawF G) uc us 582 [(0, .ref 0), (1, .ref 1), (2, .ref 205), (3, .ref 226), (4, .int (nI (6 * j)))] [] h := by
  obtain ⟨fs1, hc1⟩ := I.c1
  refine x_aload_n dL_law_582 rfl ?_
  refine x_aload_n dL_law_583 rfl ?_
  refine x_iload dL_law_584 rfl ?_
  refine x_iconst (v := 1) dL_law_586 (by decide) ?_
  refine x_iadd dL_law_587 ?_
  refine x_top (y := nI ((6 * j) + 1)) (nI_add (6 * j) 1) ?_
  refine x_sld (vp_in_nI (by omega) (by omega)) dL_law_588 ?_
  refine x_top (y := xS G ((6 * j) + 1)) (congrArg (xS G) (nI_clamp (by omega))) ?_
  refine x_callV (As := [.int (xS G ((6 * j) + 1))]) (st := []) lv_L_74 (p_many I (a := xS G ((6 * j) + 1))) dL_law_589 hc1 rfl rfl (Nat.le_of_ble_eq_true rfl) ⟨by decide, by decide⟩ ⟨by show uc + 0 ≤ 601024; omega, by show us + 0 ≤ 7293034; omega⟩ (fun v9 h1 z => ?_) (fun _ _ _ _ _ z => by obtain ⟨_, z, _⟩ := z; cases z)
  obtain ⟨r, ev, ⟨fs2, hc2⟩, mc, ms, hM, hmc, hms⟩ := z
  cases ev
  refine x_aload_n dL_law_592 rfl ?_
  refine x_aload_n dL_law_593 rfl ?_
  refine x_iload dL_law_594 rfl ?_
  refine x_iconst (v := 1) dL_law_596 (by decide) ?_
  refine x_iadd dL_law_597 ?_
  refine x_top (y := nI ((6 * j) + 1)) (nI_add (6 * j) 1) ?_
  refine x_sld (vp_in_nI (by omega) (by omega)) dL_law_598 ?_
  refine x_top (y := xS G ((6 * j) + 1)) (congrArg (xS G) (nI_clamp (by omega))) ?_
  refine x_callV (As := [.int (xS G ((6 * j) + 1))]) (st := [.int r]) lv_L_77 hM dL_law_599 hc2 rfl rfl (Nat.le_of_ble_eq_true rfl) ⟨by decide, by decide⟩ ⟨by show uc + 0 + mc ≤ 601024; omega, by show us + 0 + ms ≤ 7293034; omega⟩ (fun v9 h2 z => ?_) (fun _ _ _ _ _ z => by cases z.1)
  obtain ⟨ev, tsz2, I2, b1, b2⟩ := z
  cases ev
  refine x_icmp_eq 1009 dL_law_602 (by decide) (fun c_602 => ?_) (fun c_602 => absurd rfl c_602)
  exact hK _ _ _ _ I2 (by omega) (by omega)
set_option maxRecDepth 100000 in
set_option maxHeartbeats 4000000 in
theorem cs_one {G : xG} {uc us : Nat} {h : xHp} {tsz j : Nat} (I : LI h tsz) (hj : 6 * j + 6 ≤ xLn G) (hL : xLn G ≤ 3072) (hu : uc + 3 * tsz ≤ 300 + 66 * j) (hv : us + 16 * tsz ≤ 11000 + 400 * j) (hK : ∀ uc' us' h' tsz', LI h' tsz' → uc' + 3 * tsz' ≤ uc + 3 * tsz + 66 → us' + 16 * tsz' ≤ us + 16 * tsz + 400 → Wx G mL_law room_1 (lawF G) uc' us' 1009 [(0, .ref 0), (1, .ref 1), (2, .ref 205), (3, .ref 226), (4, .int (nI (6 * j)))] [] h') : Wx G mL_law room_1 (lawF G) uc us 607 [(0, .ref 0), (1, .ref 1), (2, .ref 205), (3, .ref 226), (4, .int (nI (6 * j)))] [] h := by
  obtain ⟨fs1, hc1⟩ := I.c1
  refine x_aload_n dL_law_607 rfl ?_
  refine x_aload_n dL_law_608 rfl ?_
  refine x_iload dL_law_609 rfl ?_
  refine x_iconst (v := 1) dL_law_611 (by decide) ?_
  refine x_iadd dL_law_612 ?_
  refine x_top (y := nI ((6 * j) + 1)) (nI_add (6 * j) 1) ?_
  refine x_sld (vp_in_nI (by omega) (by omega)) dL_law_613 ?_
  refine x_top (y := xS G ((6 * j) + 1)) (congrArg (xS G) (nI_clamp (by omega))) ?_
  refine x_aload_n dL_law_614 rfl ?_
  refine x_iload dL_law_615 rfl ?_
  refine x_iconst (v := 2) dL_law_617 (by decide) ?_
  refine x_iadd dL_law_618 ?_
  refine x_top (y := nI ((6 * j) + 2)) (nI_add (6 * j) 2) ?_
  refine x_sld (vp_in_nI (by omega) (by omega)) dL_law_619 ?_
  refine x_top (y := xS G ((6 * j) + 2)) (congrArg (xS G) (nI_clamp (by omega))) ?_
  refine x_callV (As := [.int (xS G ((6 * j) + 1)), .int (xS G ((6 * j) + 2))]) (st := []) lv_L_78 (p_one I (a := xS G ((6 * j) + 1)) (a2 := xS G ((6 * j) + 2))) dL_law_620 hc1 rfl rfl (Nat.le_of_ble_eq_true rfl) ⟨by decide, by decide⟩ ⟨by show uc + 0 ≤ 601024; omega, by show us + 0 ≤ 7293034; omega⟩ (fun v9 h1 z => ?_) (fun _ _ _ _ _ z => by obtain ⟨_, z, _⟩ := z; cases z)
  obtain ⟨r, ev, ⟨fs2, hc2⟩, mc, ms, hM, hmc, hms⟩ := z
  cases ev
  refine x_aload_n dL_law_623 rfl ?_
  refine x_aload_n dL_law_624 rfl ?_
  refine x_iload dL_law_625 rfl ?_
  refine x_iconst (v := 1) dL_law_627 (by decide) ?_
  refine x_iadd dL_law_628 ?_
  refine x_top (y := nI ((6 * j) + 1)) (nI_add (6 * j) 1) ?_
  refine x_sld (vp_in_nI (by omega) (by omega)) dL_law_629 ?_
  refine x_top (y := xS G ((6 * j) + 1)) (congrArg (xS G) (nI_clamp (by omega))) ?_
  refine x_aload_n dL_law_630 rfl ?_
  refine x_iload dL_law_631 rfl ?_
  refine x_iconst (v := 2) dL_law_633 (by decide) ?_
  refine x_iadd dL_law_634 ?_
  refine x_top (y := nI ((6 * j) + 2)) (nI_add (6 * j) 2) ?_
  refine x_sld (vp_in_nI (by omega) (by omega)) dL_law_635 ?_
  refine x_top (y := xS G ((6 * j) + 2)) (congrArg (xS G) (nI_clamp (by omega))) ?_
  refine x_callV (As := [.int (xS G ((6 * j) + 1)), .int (xS G ((6 * j) + 2))]) (st := [.int r]) lv_L_82 hM dL_law_636 hc2 rfl rfl (Nat.le_of_ble_eq_true rfl) ⟨by decide, by decide⟩ ⟨by show uc + 0 + mc ≤ 601024; omega, by show us + 0 + ms ≤ 7293034; omega⟩ (fun v9 h2 z => ?_) (fun _ _ _ _ _ z => by cases z.1)
  obtain ⟨ev, tsz2, I2, b1, b2⟩ := z
  cases ev
  refine x_icmp_eq 1009 dL_law_639 (by decide) (fun c_639 => ?_) (fun c_639 => absurd rfl c_639)
  exact hK _ _ _ _ I2 (by omega) (by omega)
set_option maxRecDepth 100000 in
set_option maxHeartbeats 4000000 in
theorem cs_steps {G : xG} {uc us : Nat} {h : xHp} {tsz j : Nat} (I : LI h tsz) (hj : 6 * j + 6 ≤ xLn G) (hL : xLn G ≤ 3072) (hu : uc + 3 * tsz ≤ 300 + 66 * j) (hv : us + 16 * tsz ≤ 11000 + 400 * j) (hK : ∀ uc' us' h' tsz', LI h' tsz' → uc' + 3 * tsz' ≤ uc + 3 * tsz + 66 → us' + 16 * tsz' ≤ us + 16 * tsz + 400 → Wx G mL_law room_1 (lawF G) uc' us' 1009 [(0, .ref 0), (1, .ref 1), (2, .ref 205), (3, .ref 226), (4, .int (nI (6 * j)))] [] h') : Wx G mL_law room_1 (lawF G) uc us 644 [(0, .ref 0), (1, .ref 1), (2, .ref 205), (3, .ref 226), (4, .int (nI (6 * j)))] [] h := by
  obtain ⟨fs1, hc1⟩ := I.c1
  refine x_aload_n dL_law_644 rfl ?_
  refine x_aload_n dL_law_645 rfl ?_
  refine x_iload dL_law_646 rfl ?_
  refine x_iconst (v := 1) dL_law_648 (by decide) ?_
  refine x_iadd dL_law_649 ?_
  refine x_top (y := nI ((6 * j) + 1)) (nI_add (6 * j) 1) ?_
  refine x_sld (vp_in_nI (by omega) (by omega)) dL_law_650 ?_
  refine x_top (y := xS G ((6 * j) + 1)) (congrArg (xS G) (nI_clamp (by omega))) ?_
  refine x_callV (As := [.int (xS G ((6 * j) + 1))]) (st := []) lv_L_83 (p_steps I (a := xS G ((6 * j) + 1))) dL_law_651 hc1 rfl rfl (Nat.le_of_ble_eq_true rfl) ⟨by decide, by decide⟩ ⟨by show uc + 0 ≤ 601024; omega, by show us + 0 ≤ 7293034; omega⟩ (fun v9 h1 z => ?_) (fun _ _ _ _ _ z => by obtain ⟨_, z, _⟩ := z; cases z)
  obtain ⟨r, ev, ⟨fs2, hc2⟩, mc, ms, hM, hmc, hms⟩ := z
  cases ev
  refine x_aload_n dL_law_654 rfl ?_
  refine x_aload_n dL_law_655 rfl ?_
  refine x_iload dL_law_656 rfl ?_
  refine x_iconst (v := 1) dL_law_658 (by decide) ?_
  refine x_iadd dL_law_659 ?_
  refine x_top (y := nI ((6 * j) + 1)) (nI_add (6 * j) 1) ?_
  refine x_sld (vp_in_nI (by omega) (by omega)) dL_law_660 ?_
  refine x_top (y := xS G ((6 * j) + 1)) (congrArg (xS G) (nI_clamp (by omega))) ?_
  refine x_callV (As := [.int (xS G ((6 * j) + 1))]) (st := [.int r]) lv_L_86 hM dL_law_661 hc2 rfl rfl (Nat.le_of_ble_eq_true rfl) ⟨by decide, by decide⟩ ⟨by show uc + 0 + mc ≤ 601024; omega, by show us + 0 + ms ≤ 7293034; omega⟩ (fun v9 h2 z => ?_) (fun _ _ _ _ _ z => by cases z.1)
  obtain ⟨ev, tsz2, I2, b1, b2⟩ := z
  cases ev
  refine x_icmp_eq 1009 dL_law_664 (by decide) (fun c_664 => ?_) (fun c_664 => absurd rfl c_664)
  exact hK _ _ _ _ I2 (by omega) (by omega)
set_option maxRecDepth 100000 in
set_option maxHeartbeats 4000000 in
theorem cs_why {G : xG} {uc us : Nat} {h : xHp} {tsz j : Nat} (I : LI h tsz) (hj : 6 * j + 6 ≤ xLn G) (hL : xLn G ≤ 3072) (hu : uc + 3 * tsz ≤ 300 + 66 * j) (hv : us + 16 * tsz ≤ 11000 + 400 * j) (hK : ∀ uc' us' h' tsz', LI h' tsz' → uc' + 3 * tsz' ≤ uc + 3 * tsz + 66 → us' + 16 * tsz' ≤ us + 16 * tsz + 400 → Wx G mL_law room_1 (lawF G) uc' us' 1009 [(0, .ref 0), (1, .ref 1), (2, .ref 205), (3, .ref 226), (4, .int (nI (6 * j)))] [] h') : Wx G mL_law room_1 (lawF G) uc us 669 [(0, .ref 0), (1, .ref 1), (2, .ref 205), (3, .ref 226), (4, .int (nI (6 * j)))] [] h := by
  obtain ⟨fs1, hc1⟩ := I.c1
  refine x_aload_n dL_law_669 rfl ?_
  refine x_aload_n dL_law_670 rfl ?_
  refine x_iload dL_law_671 rfl ?_
  refine x_iconst (v := 1) dL_law_673 (by decide) ?_
  refine x_iadd dL_law_674 ?_
  refine x_top (y := nI ((6 * j) + 1)) (nI_add (6 * j) 1) ?_
  refine x_sld (vp_in_nI (by omega) (by omega)) dL_law_675 ?_
  refine x_top (y := xS G ((6 * j) + 1)) (congrArg (xS G) (nI_clamp (by omega))) ?_
  refine x_callV (As := [.int (xS G ((6 * j) + 1))]) (st := []) lv_L_87 (p_why I (a := xS G ((6 * j) + 1))) dL_law_676 hc1 rfl rfl (Nat.le_of_ble_eq_true rfl) ⟨by decide, by decide⟩ ⟨by show uc + 0 ≤ 601024; omega, by show us + 0 ≤ 7293034; omega⟩ (fun v9 h1 z => ?_) (fun _ _ _ _ _ z => by obtain ⟨_, z, _⟩ := z; cases z)
  obtain ⟨r, ev, ⟨fs2, hc2⟩, mc, ms, hM, hmc, hms⟩ := z
  cases ev
  refine x_aload_n dL_law_679 rfl ?_
  refine x_aload_n dL_law_680 rfl ?_
  refine x_iload dL_law_681 rfl ?_
  refine x_iconst (v := 1) dL_law_683 (by decide) ?_
  refine x_iadd dL_law_684 ?_
  refine x_top (y := nI ((6 * j) + 1)) (nI_add (6 * j) 1) ?_
  refine x_sld (vp_in_nI (by omega) (by omega)) dL_law_685 ?_
  refine x_top (y := xS G ((6 * j) + 1)) (congrArg (xS G) (nI_clamp (by omega))) ?_
  refine x_callV (As := [.int (xS G ((6 * j) + 1))]) (st := [.int r]) lv_L_90 hM dL_law_686 hc2 rfl rfl (Nat.le_of_ble_eq_true rfl) ⟨by decide, by decide⟩ ⟨by show uc + 0 + mc ≤ 601024; omega, by show us + 0 + ms ≤ 7293034; omega⟩ (fun v9 h2 z => ?_) (fun _ _ _ _ _ z => by cases z.1)
  obtain ⟨ev, tsz2, I2, b1, b2⟩ := z
  cases ev
  refine x_icmp_eq 1009 dL_law_689 (by decide) (fun c_689 => ?_) (fun c_689 => absurd rfl c_689)
  exact hK _ _ _ _ I2 (by omega) (by omega)
set_option maxRecDepth 100000 in
set_option maxHeartbeats 4000000 in
theorem cs_because {G : xG} {uc us : Nat} {h : xHp} {tsz j : Nat} (I : LI h tsz) (hj : 6 * j + 6 ≤ xLn G) (hL : xLn G ≤ 3072) (hu : uc + 3 * tsz ≤ 300 + 66 * j) (hv : us + 16 * tsz ≤ 11000 + 400 * j) (hK : ∀ uc' us' h' tsz', LI h' tsz' → uc' + 3 * tsz' ≤ uc + 3 * tsz + 66 → us' + 16 * tsz' ≤ us + 16 * tsz + 400 → Wx G mL_law room_1 (lawF G) uc' us' 1009 [(0, .ref 0), (1, .ref 1), (2, .ref 205), (3, .ref 226), (4, .int (nI (6 * j)))] [] h') : Wx G mL_law room_1 (lawF G) uc us 694 [(0, .ref 0), (1, .ref 1), (2, .ref 205), (3, .ref 226), (4, .int (nI (6 * j)))] [] h := by
  obtain ⟨fs1, hc1⟩ := I.c1
  refine x_aload_n dL_law_694 rfl ?_
  refine x_aload_n dL_law_695 rfl ?_
  refine x_iload dL_law_696 rfl ?_
  refine x_iconst (v := 1) dL_law_698 (by decide) ?_
  refine x_iadd dL_law_699 ?_
  refine x_top (y := nI ((6 * j) + 1)) (nI_add (6 * j) 1) ?_
  refine x_sld (vp_in_nI (by omega) (by omega)) dL_law_700 ?_
  refine x_top (y := xS G ((6 * j) + 1)) (congrArg (xS G) (nI_clamp (by omega))) ?_
  refine x_callV (As := [.int (xS G ((6 * j) + 1))]) (st := []) lv_L_91 (p_because I (a := xS G ((6 * j) + 1))) dL_law_701 hc1 rfl rfl (Nat.le_of_ble_eq_true rfl) ⟨by decide, by decide⟩ ⟨by show uc + 0 ≤ 601024; omega, by show us + 0 ≤ 7293034; omega⟩ (fun v9 h1 z => ?_) (fun _ _ _ _ _ z => by obtain ⟨_, z, _⟩ := z; cases z)
  obtain ⟨r, ev, ⟨fs2, hc2⟩, mc, ms, hM, hmc, hms⟩ := z
  cases ev
  refine x_aload_n dL_law_704 rfl ?_
  refine x_aload_n dL_law_705 rfl ?_
  refine x_iload dL_law_706 rfl ?_
  refine x_iconst (v := 1) dL_law_708 (by decide) ?_
  refine x_iadd dL_law_709 ?_
  refine x_top (y := nI ((6 * j) + 1)) (nI_add (6 * j) 1) ?_
  refine x_sld (vp_in_nI (by omega) (by omega)) dL_law_710 ?_
  refine x_top (y := xS G ((6 * j) + 1)) (congrArg (xS G) (nI_clamp (by omega))) ?_
  refine x_callV (As := [.int (xS G ((6 * j) + 1))]) (st := [.int r]) lv_L_94 hM dL_law_711 hc2 rfl rfl (Nat.le_of_ble_eq_true rfl) ⟨by decide, by decide⟩ ⟨by show uc + 0 + mc ≤ 601024; omega, by show us + 0 + ms ≤ 7293034; omega⟩ (fun v9 h2 z => ?_) (fun _ _ _ _ _ z => by cases z.1)
  obtain ⟨ev, tsz2, I2, b1, b2⟩ := z
  cases ev
  refine x_icmp_eq 1009 dL_law_714 (by decide) (fun c_714 => ?_) (fun c_714 => absurd rfl c_714)
  exact hK _ _ _ _ I2 (by omega) (by omega)
set_option maxRecDepth 100000 in
set_option maxHeartbeats 4000000 in
theorem cs_comes {G : xG} {uc us : Nat} {h : xHp} {tsz j : Nat} (I : LI h tsz) (hj : 6 * j + 6 ≤ xLn G) (hL : xLn G ≤ 3072) (hu : uc + 3 * tsz ≤ 300 + 66 * j) (hv : us + 16 * tsz ≤ 11000 + 400 * j) (hK : ∀ uc' us' h' tsz', LI h' tsz' → uc' + 3 * tsz' ≤ uc + 3 * tsz + 66 → us' + 16 * tsz' ≤ us + 16 * tsz + 400 → Wx G mL_law room_1 (lawF G) uc' us' 1009 [(0, .ref 0), (1, .ref 1), (2, .ref 205), (3, .ref 226), (4, .int (nI (6 * j)))] [] h') : Wx G mL_law room_1 (lawF G) uc us 719 [(0, .ref 0), (1, .ref 1), (2, .ref 205), (3, .ref 226), (4, .int (nI (6 * j)))] [] h := by
  obtain ⟨fs1, hc1⟩ := I.c1
  refine x_aload_n dL_law_719 rfl ?_
  refine x_aload_n dL_law_720 rfl ?_
  refine x_iload dL_law_721 rfl ?_
  refine x_iconst (v := 1) dL_law_723 (by decide) ?_
  refine x_iadd dL_law_724 ?_
  refine x_top (y := nI ((6 * j) + 1)) (nI_add (6 * j) 1) ?_
  refine x_sld (vp_in_nI (by omega) (by omega)) dL_law_725 ?_
  refine x_top (y := xS G ((6 * j) + 1)) (congrArg (xS G) (nI_clamp (by omega))) ?_
  refine x_aload_n dL_law_726 rfl ?_
  refine x_iload dL_law_727 rfl ?_
  refine x_iconst (v := 2) dL_law_729 (by decide) ?_
  refine x_iadd dL_law_730 ?_
  refine x_top (y := nI ((6 * j) + 2)) (nI_add (6 * j) 2) ?_
  refine x_sld (vp_in_nI (by omega) (by omega)) dL_law_731 ?_
  refine x_top (y := xS G ((6 * j) + 2)) (congrArg (xS G) (nI_clamp (by omega))) ?_
  refine x_callV (As := [.int (xS G ((6 * j) + 1)), .int (xS G ((6 * j) + 2))]) (st := []) lv_L_95 (p_comes I (a := xS G ((6 * j) + 1)) (a2 := xS G ((6 * j) + 2))) dL_law_732 hc1 rfl rfl (Nat.le_of_ble_eq_true rfl) ⟨by decide, by decide⟩ ⟨by show uc + 0 ≤ 601024; omega, by show us + 0 ≤ 7293034; omega⟩ (fun v9 h1 z => ?_) (fun _ _ _ _ _ z => by obtain ⟨_, z, _⟩ := z; cases z)
  obtain ⟨r, ev, ⟨fs2, hc2⟩, mc, ms, hM, hmc, hms⟩ := z
  cases ev
  refine x_aload_n dL_law_735 rfl ?_
  refine x_aload_n dL_law_736 rfl ?_
  refine x_iload dL_law_737 rfl ?_
  refine x_iconst (v := 1) dL_law_739 (by decide) ?_
  refine x_iadd dL_law_740 ?_
  refine x_top (y := nI ((6 * j) + 1)) (nI_add (6 * j) 1) ?_
  refine x_sld (vp_in_nI (by omega) (by omega)) dL_law_741 ?_
  refine x_top (y := xS G ((6 * j) + 1)) (congrArg (xS G) (nI_clamp (by omega))) ?_
  refine x_aload_n dL_law_742 rfl ?_
  refine x_iload dL_law_743 rfl ?_
  refine x_iconst (v := 2) dL_law_745 (by decide) ?_
  refine x_iadd dL_law_746 ?_
  refine x_top (y := nI ((6 * j) + 2)) (nI_add (6 * j) 2) ?_
  refine x_sld (vp_in_nI (by omega) (by omega)) dL_law_747 ?_
  refine x_top (y := xS G ((6 * j) + 2)) (congrArg (xS G) (nI_clamp (by omega))) ?_
  refine x_callV (As := [.int (xS G ((6 * j) + 1)), .int (xS G ((6 * j) + 2))]) (st := [.int r]) lv_L_98 hM dL_law_748 hc2 rfl rfl (Nat.le_of_ble_eq_true rfl) ⟨by decide, by decide⟩ ⟨by show uc + 0 + mc ≤ 601024; omega, by show us + 0 + ms ≤ 7293034; omega⟩ (fun v9 h2 z => ?_) (fun _ _ _ _ _ z => by cases z.1)
  obtain ⟨ev, tsz2, I2, b1, b2⟩ := z
  cases ev
  refine x_icmp_eq 1009 dL_law_751 (by decide) (fun c_751 => ?_) (fun c_751 => absurd rfl c_751)
  exact hK _ _ _ _ I2 (by omega) (by omega)
set_option maxRecDepth 100000 in
set_option maxHeartbeats 4000000 in
theorem cs_rule {G : xG} {uc us : Nat} {h : xHp} {tsz j : Nat} (I : LI h tsz) (hj : 6 * j + 6 ≤ xLn G) (hL : xLn G ≤ 3072) (hu : uc + 3 * tsz ≤ 300 + 66 * j) (hv : us + 16 * tsz ≤ 11000 + 400 * j) (hK : ∀ uc' us' h' tsz', LI h' tsz' → uc' + 3 * tsz' ≤ uc + 3 * tsz + 66 → us' + 16 * tsz' ≤ us + 16 * tsz + 400 → Wx G mL_law room_1 (lawF G) uc' us' 1009 [(0, .ref 0), (1, .ref 1), (2, .ref 205), (3, .ref 226), (4, .int (nI (6 * j)))] [] h') : Wx G mL_law room_1 (lawF G) uc us 756 [(0, .ref 0), (1, .ref 1), (2, .ref 205), (3, .ref 226), (4, .int (nI (6 * j)))] [] h := by
  obtain ⟨fs1, hc1⟩ := I.c1
  refine x_aload_n dL_law_756 rfl ?_
  refine x_aload_n dL_law_757 rfl ?_
  refine x_iload dL_law_758 rfl ?_
  refine x_iconst (v := 1) dL_law_760 (by decide) ?_
  refine x_iadd dL_law_761 ?_
  refine x_top (y := nI ((6 * j) + 1)) (nI_add (6 * j) 1) ?_
  refine x_sld (vp_in_nI (by omega) (by omega)) dL_law_762 ?_
  refine x_top (y := xS G ((6 * j) + 1)) (congrArg (xS G) (nI_clamp (by omega))) ?_
  refine x_aload_n dL_law_763 rfl ?_
  refine x_iload dL_law_764 rfl ?_
  refine x_iconst (v := 2) dL_law_766 (by decide) ?_
  refine x_iadd dL_law_767 ?_
  refine x_top (y := nI ((6 * j) + 2)) (nI_add (6 * j) 2) ?_
  refine x_sld (vp_in_nI (by omega) (by omega)) dL_law_768 ?_
  refine x_top (y := xS G ((6 * j) + 2)) (congrArg (xS G) (nI_clamp (by omega))) ?_
  refine x_callV (As := [.int (xS G ((6 * j) + 1)), .int (xS G ((6 * j) + 2))]) (st := []) lv_L_99 (p_rule I (a := xS G ((6 * j) + 1)) (a2 := xS G ((6 * j) + 2))) dL_law_769 hc1 rfl rfl (Nat.le_of_ble_eq_true rfl) ⟨by decide, by decide⟩ ⟨by show uc + 0 ≤ 601024; omega, by show us + 0 ≤ 7293034; omega⟩ (fun v9 h1 z => ?_) (fun _ _ _ _ _ z => by obtain ⟨_, z, _⟩ := z; cases z)
  obtain ⟨r, ev, ⟨fs2, hc2⟩, mc, ms, hM, hmc, hms⟩ := z
  cases ev
  refine x_aload_n dL_law_772 rfl ?_
  refine x_aload_n dL_law_773 rfl ?_
  refine x_iload dL_law_774 rfl ?_
  refine x_iconst (v := 1) dL_law_776 (by decide) ?_
  refine x_iadd dL_law_777 ?_
  refine x_top (y := nI ((6 * j) + 1)) (nI_add (6 * j) 1) ?_
  refine x_sld (vp_in_nI (by omega) (by omega)) dL_law_778 ?_
  refine x_top (y := xS G ((6 * j) + 1)) (congrArg (xS G) (nI_clamp (by omega))) ?_
  refine x_aload_n dL_law_779 rfl ?_
  refine x_iload dL_law_780 rfl ?_
  refine x_iconst (v := 2) dL_law_782 (by decide) ?_
  refine x_iadd dL_law_783 ?_
  refine x_top (y := nI ((6 * j) + 2)) (nI_add (6 * j) 2) ?_
  refine x_sld (vp_in_nI (by omega) (by omega)) dL_law_784 ?_
  refine x_top (y := xS G ((6 * j) + 2)) (congrArg (xS G) (nI_clamp (by omega))) ?_
  refine x_callV (As := [.int (xS G ((6 * j) + 1)), .int (xS G ((6 * j) + 2))]) (st := [.int r]) lv_L_102 hM dL_law_785 hc2 rfl rfl (Nat.le_of_ble_eq_true rfl) ⟨by decide, by decide⟩ ⟨by show uc + 0 + mc ≤ 601024; omega, by show us + 0 + ms ≤ 7293034; omega⟩ (fun v9 h2 z => ?_) (fun _ _ _ _ _ z => by cases z.1)
  obtain ⟨ev, tsz2, I2, b1, b2⟩ := z
  cases ev
  refine x_icmp_eq 1009 dL_law_788 (by decide) (fun c_788 => ?_) (fun c_788 => absurd rfl c_788)
  exact hK _ _ _ _ I2 (by omega) (by omega)
set_option maxRecDepth 100000 in
set_option maxHeartbeats 4000000 in
theorem cs_term {G : xG} {uc us : Nat} {h : xHp} {tsz j : Nat} (I : LI h tsz) (hj : 6 * j + 6 ≤ xLn G) (hL : xLn G ≤ 3072) (hu : uc + 3 * tsz ≤ 300 + 66 * j) (hv : us + 16 * tsz ≤ 11000 + 400 * j) (hK : ∀ uc' us' h' tsz', LI h' tsz' → uc' + 3 * tsz' ≤ uc + 3 * tsz + 66 → us' + 16 * tsz' ≤ us + 16 * tsz + 400 → Wx G mL_law room_1 (lawF G) uc' us' 1009 [(0, .ref 0), (1, .ref 1), (2, .ref 205), (3, .ref 226), (4, .int (nI (6 * j)))] [] h') : Wx G mL_law room_1 (lawF G) uc us 793 [(0, .ref 0), (1, .ref 1), (2, .ref 205), (3, .ref 226), (4, .int (nI (6 * j)))] [] h := by
  obtain ⟨fs1, hc1⟩ := I.c1
  refine x_aload_n dL_law_793 rfl ?_
  refine x_aload_n dL_law_794 rfl ?_
  refine x_iload dL_law_795 rfl ?_
  refine x_iconst (v := 1) dL_law_797 (by decide) ?_
  refine x_iadd dL_law_798 ?_
  refine x_top (y := nI ((6 * j) + 1)) (nI_add (6 * j) 1) ?_
  refine x_sld (vp_in_nI (by omega) (by omega)) dL_law_799 ?_
  refine x_top (y := xS G ((6 * j) + 1)) (congrArg (xS G) (nI_clamp (by omega))) ?_
  refine x_aload_n dL_law_800 rfl ?_
  refine x_iload dL_law_801 rfl ?_
  refine x_iconst (v := 2) dL_law_803 (by decide) ?_
  refine x_iadd dL_law_804 ?_
  refine x_top (y := nI ((6 * j) + 2)) (nI_add (6 * j) 2) ?_
  refine x_sld (vp_in_nI (by omega) (by omega)) dL_law_805 ?_
  refine x_top (y := xS G ((6 * j) + 2)) (congrArg (xS G) (nI_clamp (by omega))) ?_
  refine x_aload_n dL_law_806 rfl ?_
  refine x_iload dL_law_807 rfl ?_
  refine x_iconst (v := 3) dL_law_809 (by decide) ?_
  refine x_iadd dL_law_810 ?_
  refine x_top (y := nI ((6 * j) + 3)) (nI_add (6 * j) 3) ?_
  refine x_sld (vp_in_nI (by omega) (by omega)) dL_law_811 ?_
  refine x_top (y := xS G ((6 * j) + 3)) (congrArg (xS G) (nI_clamp (by omega))) ?_
  refine x_callV (As := [.int (xS G ((6 * j) + 1)), .int (xS G ((6 * j) + 2)), .int (xS G ((6 * j) + 3))]) (st := []) lv_L_103 (p_term I (a := xS G ((6 * j) + 1)) (a2 := xS G ((6 * j) + 2)) (a3 := xS G ((6 * j) + 3))) dL_law_812 hc1 rfl rfl (Nat.le_of_ble_eq_true rfl) ⟨by decide, by decide⟩ ⟨by show uc + 0 ≤ 601024; omega, by show us + 0 ≤ 7293034; omega⟩ (fun v9 h1 z => ?_) (fun _ _ _ _ _ z => by obtain ⟨_, z, _⟩ := z; cases z)
  obtain ⟨r, ev, ⟨fs2, hc2⟩, mc, ms, hM, hmc, hms⟩ := z
  cases ev
  refine x_aload_n dL_law_815 rfl ?_
  refine x_aload_n dL_law_816 rfl ?_
  refine x_iload dL_law_817 rfl ?_
  refine x_iconst (v := 1) dL_law_819 (by decide) ?_
  refine x_iadd dL_law_820 ?_
  refine x_top (y := nI ((6 * j) + 1)) (nI_add (6 * j) 1) ?_
  refine x_sld (vp_in_nI (by omega) (by omega)) dL_law_821 ?_
  refine x_top (y := xS G ((6 * j) + 1)) (congrArg (xS G) (nI_clamp (by omega))) ?_
  refine x_aload_n dL_law_822 rfl ?_
  refine x_iload dL_law_823 rfl ?_
  refine x_iconst (v := 2) dL_law_825 (by decide) ?_
  refine x_iadd dL_law_826 ?_
  refine x_top (y := nI ((6 * j) + 2)) (nI_add (6 * j) 2) ?_
  refine x_sld (vp_in_nI (by omega) (by omega)) dL_law_827 ?_
  refine x_top (y := xS G ((6 * j) + 2)) (congrArg (xS G) (nI_clamp (by omega))) ?_
  refine x_aload_n dL_law_828 rfl ?_
  refine x_iload dL_law_829 rfl ?_
  refine x_iconst (v := 3) dL_law_831 (by decide) ?_
  refine x_iadd dL_law_832 ?_
  refine x_top (y := nI ((6 * j) + 3)) (nI_add (6 * j) 3) ?_
  refine x_sld (vp_in_nI (by omega) (by omega)) dL_law_833 ?_
  refine x_top (y := xS G ((6 * j) + 3)) (congrArg (xS G) (nI_clamp (by omega))) ?_
  refine x_callV (As := [.int (xS G ((6 * j) + 1)), .int (xS G ((6 * j) + 2)), .int (xS G ((6 * j) + 3))]) (st := [.int r]) lv_L_106 hM dL_law_834 hc2 rfl rfl (Nat.le_of_ble_eq_true rfl) ⟨by decide, by decide⟩ ⟨by show uc + 0 + mc ≤ 601024; omega, by show us + 0 + ms ≤ 7293034; omega⟩ (fun v9 h2 z => ?_) (fun _ _ _ _ _ z => by cases z.1)
  obtain ⟨ev, tsz2, I2, b1, b2⟩ := z
  cases ev
  refine x_icmp_eq 1009 dL_law_837 (by decide) (fun c_837 => ?_) (fun c_837 => absurd rfl c_837)
  exact hK _ _ _ _ I2 (by omega) (by omega)
set_option maxRecDepth 100000 in
set_option maxHeartbeats 4000000 in
theorem cs_go {G : xG} {uc us : Nat} {h : xHp} {tsz j : Nat} (I : LI h tsz) (hj : 6 * j + 6 ≤ xLn G) (hL : xLn G ≤ 3072) (hu : uc + 3 * tsz ≤ 300 + 66 * j) (hv : us + 16 * tsz ≤ 11000 + 400 * j) (hK : ∀ uc' us' h' tsz', LI h' tsz' → uc' + 3 * tsz' ≤ uc + 3 * tsz + 66 → us' + 16 * tsz' ≤ us + 16 * tsz + 400 → Wx G mL_law room_1 (lawF G) uc' us' 1009 [(0, .ref 0), (1, .ref 1), (2, .ref 205), (3, .ref 226), (4, .int (nI (6 * j)))] [] h') : Wx G mL_law room_1 (lawF G) uc us 842 [(0, .ref 0), (1, .ref 1), (2, .ref 205), (3, .ref 226), (4, .int (nI (6 * j)))] [] h := by
  obtain ⟨fs1, hc1⟩ := I.c1
  refine x_aload_n dL_law_842 rfl ?_
  refine x_aload_n dL_law_843 rfl ?_
  refine x_iload dL_law_844 rfl ?_
  refine x_iconst (v := 1) dL_law_846 (by decide) ?_
  refine x_iadd dL_law_847 ?_
  refine x_top (y := nI ((6 * j) + 1)) (nI_add (6 * j) 1) ?_
  refine x_sld (vp_in_nI (by omega) (by omega)) dL_law_848 ?_
  refine x_top (y := xS G ((6 * j) + 1)) (congrArg (xS G) (nI_clamp (by omega))) ?_
  refine x_callV (As := [.int (xS G ((6 * j) + 1))]) (st := []) lv_L_107 (p_go I (a := xS G ((6 * j) + 1))) dL_law_849 hc1 rfl rfl (Nat.le_of_ble_eq_true rfl) ⟨by decide, by decide⟩ ⟨by show uc + 0 ≤ 601024; omega, by show us + 0 ≤ 7293034; omega⟩ (fun v9 h1 z => ?_) (fun _ _ _ _ _ z => by obtain ⟨_, z, _⟩ := z; cases z)
  obtain ⟨r, ev, ⟨fs2, hc2⟩, mc, ms, hM, hmc, hms⟩ := z
  cases ev
  refine x_aload_n dL_law_852 rfl ?_
  refine x_aload_n dL_law_853 rfl ?_
  refine x_iload dL_law_854 rfl ?_
  refine x_iconst (v := 1) dL_law_856 (by decide) ?_
  refine x_iadd dL_law_857 ?_
  refine x_top (y := nI ((6 * j) + 1)) (nI_add (6 * j) 1) ?_
  refine x_sld (vp_in_nI (by omega) (by omega)) dL_law_858 ?_
  refine x_top (y := xS G ((6 * j) + 1)) (congrArg (xS G) (nI_clamp (by omega))) ?_
  refine x_callV (As := [.int (xS G ((6 * j) + 1))]) (st := [.int r]) lv_L_110 hM dL_law_859 hc2 rfl rfl (Nat.le_of_ble_eq_true rfl) ⟨by decide, by decide⟩ ⟨by show uc + 0 + mc ≤ 601024; omega, by show us + 0 + ms ≤ 7293034; omega⟩ (fun v9 h2 z => ?_) (fun _ _ _ _ _ z => by cases z.1)
  obtain ⟨ev, tsz2, I2, b1, b2⟩ := z
  cases ev
  refine x_icmp_eq 1009 dL_law_862 (by decide) (fun c_862 => ?_) (fun c_862 => absurd rfl c_862)
  exact hK _ _ _ _ I2 (by omega) (by omega)
set_option maxRecDepth 100000 in
set_option maxHeartbeats 4000000 in
theorem cs_gone {G : xG} {uc us : Nat} {h : xHp} {tsz j : Nat} (I : LI h tsz) (hj : 6 * j + 6 ≤ xLn G) (hL : xLn G ≤ 3072) (hu : uc + 3 * tsz ≤ 300 + 66 * j) (hv : us + 16 * tsz ≤ 11000 + 400 * j) (hK : ∀ uc' us' h' tsz', LI h' tsz' → uc' + 3 * tsz' ≤ uc + 3 * tsz + 66 → us' + 16 * tsz' ≤ us + 16 * tsz + 400 → Wx G mL_law room_1 (lawF G) uc' us' 1009 [(0, .ref 0), (1, .ref 1), (2, .ref 205), (3, .ref 226), (4, .int (nI (6 * j)))] [] h') : Wx G mL_law room_1 (lawF G) uc us 867 [(0, .ref 0), (1, .ref 1), (2, .ref 205), (3, .ref 226), (4, .int (nI (6 * j)))] [] h := by
  obtain ⟨fs1, hc1⟩ := I.c1
  refine x_aload_n dL_law_867 rfl ?_
  refine x_aload_n dL_law_868 rfl ?_
  refine x_iload dL_law_869 rfl ?_
  refine x_iconst (v := 1) dL_law_871 (by decide) ?_
  refine x_iadd dL_law_872 ?_
  refine x_top (y := nI ((6 * j) + 1)) (nI_add (6 * j) 1) ?_
  refine x_sld (vp_in_nI (by omega) (by omega)) dL_law_873 ?_
  refine x_top (y := xS G ((6 * j) + 1)) (congrArg (xS G) (nI_clamp (by omega))) ?_
  refine x_callV (As := [.int (xS G ((6 * j) + 1))]) (st := []) lv_L_111 (p_gone I (a := xS G ((6 * j) + 1))) dL_law_874 hc1 rfl rfl (Nat.le_of_ble_eq_true rfl) ⟨by decide, by decide⟩ ⟨by show uc + 0 ≤ 601024; omega, by show us + 0 ≤ 7293034; omega⟩ (fun v9 h1 z => ?_) (fun _ _ _ _ _ z => by obtain ⟨_, z, _⟩ := z; cases z)
  obtain ⟨r, ev, ⟨fs2, hc2⟩, mc, ms, hM, hmc, hms⟩ := z
  cases ev
  refine x_aload_n dL_law_877 rfl ?_
  refine x_aload_n dL_law_878 rfl ?_
  refine x_iload dL_law_879 rfl ?_
  refine x_iconst (v := 1) dL_law_881 (by decide) ?_
  refine x_iadd dL_law_882 ?_
  refine x_top (y := nI ((6 * j) + 1)) (nI_add (6 * j) 1) ?_
  refine x_sld (vp_in_nI (by omega) (by omega)) dL_law_883 ?_
  refine x_top (y := xS G ((6 * j) + 1)) (congrArg (xS G) (nI_clamp (by omega))) ?_
  refine x_callV (As := [.int (xS G ((6 * j) + 1))]) (st := [.int r]) lv_L_114 hM dL_law_884 hc2 rfl rfl (Nat.le_of_ble_eq_true rfl) ⟨by decide, by decide⟩ ⟨by show uc + 0 + mc ≤ 601024; omega, by show us + 0 + ms ≤ 7293034; omega⟩ (fun v9 h2 z => ?_) (fun _ _ _ _ _ z => by cases z.1)
  obtain ⟨ev, tsz2, I2, b1, b2⟩ := z
  cases ev
  refine x_icmp_eq 1009 dL_law_887 (by decide) (fun c_887 => ?_) (fun c_887 => absurd rfl c_887)
  exact hK _ _ _ _ I2 (by omega) (by omega)
set_option maxRecDepth 100000 in
set_option maxHeartbeats 4000000 in
theorem cs_derived {G : xG} {uc us : Nat} {h : xHp} {tsz j : Nat} (I : LI h tsz) (hj : 6 * j + 6 ≤ xLn G) (hL : xLn G ≤ 3072) (hu : uc + 3 * tsz ≤ 300 + 66 * j) (hv : us + 16 * tsz ≤ 11000 + 400 * j) (hK : ∀ uc' us' h' tsz', LI h' tsz' → uc' + 3 * tsz' ≤ uc + 3 * tsz + 66 → us' + 16 * tsz' ≤ us + 16 * tsz + 400 → Wx G mL_law room_1 (lawF G) uc' us' 1009 [(0, .ref 0), (1, .ref 1), (2, .ref 205), (3, .ref 226), (4, .int (nI (6 * j)))] [] h') : Wx G mL_law room_1 (lawF G) uc us 892 [(0, .ref 0), (1, .ref 1), (2, .ref 205), (3, .ref 226), (4, .int (nI (6 * j)))] [] h := by
  obtain ⟨fs1, hc1⟩ := I.c1
  refine x_aload_n dL_law_892 rfl ?_
  refine x_callV (As := []) (st := []) lv_L_115 (p_derived I ) dL_law_893 hc1 rfl rfl (Nat.le_of_ble_eq_true rfl) ⟨by decide, by decide⟩ ⟨by show uc + 0 ≤ 601024; omega, by show us + 0 ≤ 7293034; omega⟩ (fun v9 h1 z => ?_) (fun _ _ _ _ _ z => by obtain ⟨_, z, _⟩ := z; cases z)
  obtain ⟨r, ev, ⟨fs2, hc2⟩, mc, ms, hM, hmc, hms⟩ := z
  cases ev
  refine x_aload_n dL_law_896 rfl ?_
  refine x_callV (As := []) (st := [.int r]) lv_L_118 hM dL_law_897 hc2 rfl rfl (Nat.le_of_ble_eq_true rfl) ⟨by decide, by decide⟩ ⟨by show uc + 0 + mc ≤ 601024; omega, by show us + 0 + ms ≤ 7293034; omega⟩ (fun v9 h2 z => ?_) (fun _ _ _ _ _ z => by cases z.1)
  obtain ⟨ev, tsz2, I2, b1, b2⟩ := z
  cases ev
  refine x_icmp_eq 1009 dL_law_900 (by decide) (fun c_900 => ?_) (fun c_900 => absurd rfl c_900)
  exact hK _ _ _ _ I2 (by omega) (by omega)
set_option maxRecDepth 100000 in
set_option maxHeartbeats 4000000 in
theorem cs_deepest {G : xG} {uc us : Nat} {h : xHp} {tsz j : Nat} (I : LI h tsz) (hj : 6 * j + 6 ≤ xLn G) (hL : xLn G ≤ 3072) (hu : uc + 3 * tsz ≤ 300 + 66 * j) (hv : us + 16 * tsz ≤ 11000 + 400 * j) (hK : ∀ uc' us' h' tsz', LI h' tsz' → uc' + 3 * tsz' ≤ uc + 3 * tsz + 66 → us' + 16 * tsz' ≤ us + 16 * tsz + 400 → Wx G mL_law room_1 (lawF G) uc' us' 1009 [(0, .ref 0), (1, .ref 1), (2, .ref 205), (3, .ref 226), (4, .int (nI (6 * j)))] [] h') : Wx G mL_law room_1 (lawF G) uc us 905 [(0, .ref 0), (1, .ref 1), (2, .ref 205), (3, .ref 226), (4, .int (nI (6 * j)))] [] h := by
  obtain ⟨fs1, hc1⟩ := I.c1
  refine x_aload_n dL_law_905 rfl ?_
  refine x_callV (As := []) (st := []) lv_L_119 (p_deepest I ) dL_law_906 hc1 rfl rfl (Nat.le_of_ble_eq_true rfl) ⟨by decide, by decide⟩ ⟨by show uc + 0 ≤ 601024; omega, by show us + 0 ≤ 7293034; omega⟩ (fun v9 h1 z => ?_) (fun _ _ _ _ _ z => by obtain ⟨_, z, _⟩ := z; cases z)
  obtain ⟨r, ev, ⟨fs2, hc2⟩, mc, ms, hM, hmc, hms⟩ := z
  cases ev
  refine x_aload_n dL_law_909 rfl ?_
  refine x_callV (As := []) (st := [.int r]) lv_L_122 hM dL_law_910 hc2 rfl rfl (Nat.le_of_ble_eq_true rfl) ⟨by decide, by decide⟩ ⟨by show uc + 0 + mc ≤ 601024; omega, by show us + 0 + ms ≤ 7293034; omega⟩ (fun v9 h2 z => ?_) (fun _ _ _ _ _ z => by cases z.1)
  obtain ⟨ev, tsz2, I2, b1, b2⟩ := z
  cases ev
  refine x_icmp_eq 1009 dL_law_913 (by decide) (fun c_913 => ?_) (fun c_913 => absurd rfl c_913)
  exact hK _ _ _ _ I2 (by omega) (by omega)
set_option maxRecDepth 100000 in
set_option maxHeartbeats 4000000 in
theorem cs_turned {G : xG} {uc us : Nat} {h : xHp} {tsz j : Nat} (I : LI h tsz) (hj : 6 * j + 6 ≤ xLn G) (hL : xLn G ≤ 3072) (hu : uc + 3 * tsz ≤ 300 + 66 * j) (hv : us + 16 * tsz ≤ 11000 + 400 * j) (hK : ∀ uc' us' h' tsz', LI h' tsz' → uc' + 3 * tsz' ≤ uc + 3 * tsz + 66 → us' + 16 * tsz' ≤ us + 16 * tsz + 400 → Wx G mL_law room_1 (lawF G) uc' us' 1009 [(0, .ref 0), (1, .ref 1), (2, .ref 205), (3, .ref 226), (4, .int (nI (6 * j)))] [] h') : Wx G mL_law room_1 (lawF G) uc us 918 [(0, .ref 0), (1, .ref 1), (2, .ref 205), (3, .ref 226), (4, .int (nI (6 * j)))] [] h := by
  obtain ⟨fs1, hc1⟩ := I.c1
  refine x_aload_n dL_law_918 rfl ?_
  refine x_aload_n dL_law_919 rfl ?_
  refine x_iload dL_law_920 rfl ?_
  refine x_iconst (v := 1) dL_law_922 (by decide) ?_
  refine x_iadd dL_law_923 ?_
  refine x_top (y := nI ((6 * j) + 1)) (nI_add (6 * j) 1) ?_
  refine x_sld (vp_in_nI (by omega) (by omega)) dL_law_924 ?_
  refine x_top (y := xS G ((6 * j) + 1)) (congrArg (xS G) (nI_clamp (by omega))) ?_
  refine x_aload_n dL_law_925 rfl ?_
  refine x_iload dL_law_926 rfl ?_
  refine x_iconst (v := 2) dL_law_928 (by decide) ?_
  refine x_iadd dL_law_929 ?_
  refine x_top (y := nI ((6 * j) + 2)) (nI_add (6 * j) 2) ?_
  refine x_sld (vp_in_nI (by omega) (by omega)) dL_law_930 ?_
  refine x_top (y := xS G ((6 * j) + 2)) (congrArg (xS G) (nI_clamp (by omega))) ?_
  refine x_if_eq 938 dL_law_931 (by decide) (fun c_931 => ?_) (fun c_931 => ?_)
  · refine x_iconst (v := 0) dL_law_938 (by decide) ?_
    refine x_callV (As := [.int (xS G ((6 * j) + 1)), .int (bi false)]) (st := []) lv_L_123 (p_turned I (a := xS G ((6 * j) + 1)) (lo := false)) dL_law_939 hc1 rfl rfl (Nat.le_of_ble_eq_true rfl) ⟨by decide, by decide⟩ ⟨by show uc + 0 ≤ 601024; omega, by show us + 0 ≤ 7293034; omega⟩ (fun v9 h1 z => ?_) (fun _ _ _ _ _ z => by obtain ⟨_, z, _⟩ := z; cases z)
    obtain ⟨r, ev, ⟨fs2, hc2⟩, mc, ms, hM, hmc, hms⟩ := z
    cases ev
    refine x_aload_n dL_law_942 rfl ?_
    refine x_aload_n dL_law_943 rfl ?_
    refine x_iload dL_law_944 rfl ?_
    refine x_iconst (v := 1) dL_law_946 (by decide) ?_
    refine x_iadd dL_law_947 ?_
    refine x_top (y := nI ((6 * j) + 1)) (nI_add (6 * j) 1) ?_
    refine x_sld (vp_in_nI (by omega) (by omega)) dL_law_948 ?_
    refine x_top (y := xS G ((6 * j) + 1)) (congrArg (xS G) (nI_clamp (by omega))) ?_
    refine x_aload_n dL_law_949 rfl ?_
    refine x_iload dL_law_950 rfl ?_
    refine x_iconst (v := 2) dL_law_952 (by decide) ?_
    refine x_iadd dL_law_953 ?_
    refine x_top (y := nI ((6 * j) + 2)) (nI_add (6 * j) 2) ?_
    refine x_sld (vp_in_nI (by omega) (by omega)) dL_law_954 ?_
    refine x_top (y := xS G ((6 * j) + 2)) (congrArg (xS G) (nI_clamp (by omega))) ?_
    refine x_if_eq 962 dL_law_955 (by decide) (fun c_955 => ?_) (fun c_955 => absurd c_931 c_955)
    refine x_iconst (v := 0) dL_law_962 (by decide) ?_
    refine x_callV (As := [.int (xS G ((6 * j) + 1)), .int (bi false)]) (st := [.int r]) lv_L_126 hM dL_law_963 hc2 rfl rfl (Nat.le_of_ble_eq_true rfl) ⟨by decide, by decide⟩ ⟨by show uc + 0 + mc ≤ 601024; omega, by show us + 0 + ms ≤ 7293034; omega⟩ (fun v9 h2 z => ?_) (fun _ _ _ _ _ z => by cases z.1)
    obtain ⟨ev, tsz2, I2, b1, b2⟩ := z
    cases ev
    refine x_icmp_eq 1009 dL_law_966 (by decide) (fun c_966 => ?_) (fun c_966 => absurd rfl c_966)
    exact hK _ _ _ _ I2 (by omega) (by omega)
  · refine x_iconst (v := 1) dL_law_934 (by decide) ?_
    refine x_goto 939 dL_law_935 (by decide) ?_
    refine x_callV (As := [.int (xS G ((6 * j) + 1)), .int (bi true)]) (st := []) lv_L_123 (p_turned I (a := xS G ((6 * j) + 1)) (lo := true)) dL_law_939 hc1 rfl rfl (Nat.le_of_ble_eq_true rfl) ⟨by decide, by decide⟩ ⟨by show uc + 0 ≤ 601024; omega, by show us + 0 ≤ 7293034; omega⟩ (fun v9 h1 z => ?_) (fun _ _ _ _ _ z => by obtain ⟨_, z, _⟩ := z; cases z)
    obtain ⟨r, ev, ⟨fs2, hc2⟩, mc, ms, hM, hmc, hms⟩ := z
    cases ev
    refine x_aload_n dL_law_942 rfl ?_
    refine x_aload_n dL_law_943 rfl ?_
    refine x_iload dL_law_944 rfl ?_
    refine x_iconst (v := 1) dL_law_946 (by decide) ?_
    refine x_iadd dL_law_947 ?_
    refine x_top (y := nI ((6 * j) + 1)) (nI_add (6 * j) 1) ?_
    refine x_sld (vp_in_nI (by omega) (by omega)) dL_law_948 ?_
    refine x_top (y := xS G ((6 * j) + 1)) (congrArg (xS G) (nI_clamp (by omega))) ?_
    refine x_aload_n dL_law_949 rfl ?_
    refine x_iload dL_law_950 rfl ?_
    refine x_iconst (v := 2) dL_law_952 (by decide) ?_
    refine x_iadd dL_law_953 ?_
    refine x_top (y := nI ((6 * j) + 2)) (nI_add (6 * j) 2) ?_
    refine x_sld (vp_in_nI (by omega) (by omega)) dL_law_954 ?_
    refine x_top (y := xS G ((6 * j) + 2)) (congrArg (xS G) (nI_clamp (by omega))) ?_
    refine x_if_eq 962 dL_law_955 (by decide) (fun c_955 => absurd c_955 c_931) (fun c_955 => ?_)
    refine x_iconst (v := 1) dL_law_958 (by decide) ?_
    refine x_goto 963 dL_law_959 (by decide) ?_
    refine x_callV (As := [.int (xS G ((6 * j) + 1)), .int (bi true)]) (st := [.int r]) lv_L_126 hM dL_law_963 hc2 rfl rfl (Nat.le_of_ble_eq_true rfl) ⟨by decide, by decide⟩ ⟨by show uc + 0 + mc ≤ 601024; omega, by show us + 0 + ms ≤ 7293034; omega⟩ (fun v9 h2 z => ?_) (fun _ _ _ _ _ z => by cases z.1)
    obtain ⟨ev, tsz2, I2, b1, b2⟩ := z
    cases ev
    refine x_icmp_eq 1009 dL_law_966 (by decide) (fun c_966 => ?_) (fun c_966 => absurd rfl c_966)
    exact hK _ _ _ _ I2 (by omega) (by omega)
set_option maxRecDepth 100000 in
set_option maxHeartbeats 4000000 in
theorem cs_count {G : xG} {uc us : Nat} {h : xHp} {tsz j : Nat} (I : LI h tsz) (hj : 6 * j + 6 ≤ xLn G) (hL : xLn G ≤ 3072) (hu : uc + 3 * tsz ≤ 300 + 66 * j) (hv : us + 16 * tsz ≤ 11000 + 400 * j) (hK : ∀ uc' us' h' tsz', LI h' tsz' → uc' + 3 * tsz' ≤ uc + 3 * tsz + 66 → us' + 16 * tsz' ≤ us + 16 * tsz + 400 → Wx G mL_law room_1 (lawF G) uc' us' 1009 [(0, .ref 0), (1, .ref 1), (2, .ref 205), (3, .ref 226), (4, .int (nI (6 * j)))] [] h') : Wx G mL_law room_1 (lawF G) uc us 971 [(0, .ref 0), (1, .ref 1), (2, .ref 205), (3, .ref 226), (4, .int (nI (6 * j)))] [] h := by
  obtain ⟨fs1, hc1⟩ := I.c1
  refine x_aload_n dL_law_971 rfl ?_
  refine x_aload_n dL_law_972 rfl ?_
  refine x_iload dL_law_973 rfl ?_
  refine x_iconst (v := 1) dL_law_975 (by decide) ?_
  refine x_iadd dL_law_976 ?_
  refine x_top (y := nI ((6 * j) + 1)) (nI_add (6 * j) 1) ?_
  refine x_sld (vp_in_nI (by omega) (by omega)) dL_law_977 ?_
  refine x_top (y := xS G ((6 * j) + 1)) (congrArg (xS G) (nI_clamp (by omega))) ?_
  refine x_callV (As := [.int (xS G ((6 * j) + 1))]) (st := []) lv_L_127 (p_count I (a := xS G ((6 * j) + 1))) dL_law_978 hc1 rfl rfl (Nat.le_of_ble_eq_true rfl) ⟨by decide, by decide⟩ ⟨by show uc + 0 ≤ 601024; omega, by show us + 0 ≤ 7293034; omega⟩ (fun v9 h1 z => ?_) (fun _ _ _ _ _ z => by obtain ⟨_, z, _⟩ := z; cases z)
  obtain ⟨r, ev, ⟨fs2, hc2⟩, mc, ms, hM, hmc, hms⟩ := z
  cases ev
  refine x_aload_n dL_law_981 rfl ?_
  refine x_aload_n dL_law_982 rfl ?_
  refine x_iload dL_law_983 rfl ?_
  refine x_iconst (v := 1) dL_law_985 (by decide) ?_
  refine x_iadd dL_law_986 ?_
  refine x_top (y := nI ((6 * j) + 1)) (nI_add (6 * j) 1) ?_
  refine x_sld (vp_in_nI (by omega) (by omega)) dL_law_987 ?_
  refine x_top (y := xS G ((6 * j) + 1)) (congrArg (xS G) (nI_clamp (by omega))) ?_
  refine x_callV (As := [.int (xS G ((6 * j) + 1))]) (st := [.int r]) lv_L_130 hM dL_law_988 hc2 rfl rfl (Nat.le_of_ble_eq_true rfl) ⟨by decide, by decide⟩ ⟨by show uc + 0 + mc ≤ 601024; omega, by show us + 0 + ms ≤ 7293034; omega⟩ (fun v9 h2 z => ?_) (fun _ _ _ _ _ z => by cases z.1)
  obtain ⟨ev, tsz2, I2, b1, b2⟩ := z
  cases ev
  refine x_icmp_eq 1009 dL_law_991 (by decide) (fun c_991 => ?_) (fun c_991 => absurd rfl c_991)
  exact hK _ _ _ _ I2 (by omega) (by omega)
set_option maxRecDepth 100000 in
set_option maxHeartbeats 4000000 in
theorem cs_trouble {G : xG} {uc us : Nat} {h : xHp} {tsz j : Nat} (I : LI h tsz) (hj : 6 * j + 6 ≤ xLn G) (hL : xLn G ≤ 3072) (hu : uc + 3 * tsz ≤ 300 + 66 * j) (hv : us + 16 * tsz ≤ 11000 + 400 * j) (hK : ∀ uc' us' h' tsz', LI h' tsz' → uc' + 3 * tsz' ≤ uc + 3 * tsz + 66 → us' + 16 * tsz' ≤ us + 16 * tsz + 400 → Wx G mL_law room_1 (lawF G) uc' us' 1009 [(0, .ref 0), (1, .ref 1), (2, .ref 205), (3, .ref 226), (4, .int (nI (6 * j)))] [] h') : Wx G mL_law room_1 (lawF G) uc us 996 [(0, .ref 0), (1, .ref 1), (2, .ref 205), (3, .ref 226), (4, .int (nI (6 * j)))] [] h := by
  obtain ⟨fs1, hc1⟩ := I.c1
  refine x_aload_n dL_law_996 rfl ?_
  refine x_callV (As := []) (st := []) lv_L_131 (p_trouble I ) dL_law_997 hc1 rfl rfl (Nat.le_of_ble_eq_true rfl) ⟨by decide, by decide⟩ ⟨by show uc + 0 ≤ 601024; omega, by show us + 0 ≤ 7293034; omega⟩ (fun v9 h1 z => ?_) (fun _ _ _ _ _ z => by obtain ⟨_, z, _⟩ := z; cases z)
  obtain ⟨r, ev, ⟨fs2, hc2⟩, mc, ms, hM, hmc, hms⟩ := z
  cases ev
  refine x_aload_n dL_law_1000 rfl ?_
  refine x_callV (As := []) (st := [.int r]) lv_L_134 hM dL_law_1001 hc2 rfl rfl (Nat.le_of_ble_eq_true rfl) ⟨by decide, by decide⟩ ⟨by show uc + 0 + mc ≤ 601024; omega, by show us + 0 + ms ≤ 7293034; omega⟩ (fun v9 h2 z => ?_) (fun _ _ _ _ _ z => by cases z.1)
  obtain ⟨ev, tsz2, I2, b1, b2⟩ := z
  cases ev
  refine x_icmp_eq 1009 dL_law_1004 (by decide) (fun c_1004 => ?_) (fun c_1004 => absurd rfl c_1004)
  exact hK _ _ _ _ I2 (by omega) (by omega)
set_option maxRecDepth 100000 in
set_option maxHeartbeats 4000000 in
theorem cs_name {G : xG} {uc us : Nat} {h : xHp} {tsz j : Nat} (I : LI h tsz) (hj : 6 * j + 6 ≤ xLn G) (hL : xLn G ≤ 3072) (hu : uc + 3 * tsz ≤ 300 + 66 * j) (hv : us + 16 * tsz ≤ 11000 + 400 * j) (hK : ∀ uc' us' h' tsz', LI h' tsz' → uc' + 3 * tsz' ≤ uc + 3 * tsz + 66 → us' + 16 * tsz' ≤ us + 16 * tsz + 400 → Wx G mL_law room_1 (lawF G) uc' us' 1009 [(0, .ref 0), (1, .ref 1), (2, .ref 205), (3, .ref 226), (4, .int (nI (6 * j)))] [] h') : Wx G mL_law room_1 (lawF G) uc us 333 [(0, .ref 0), (1, .ref 1), (2, .ref 205), (3, .ref 226), (4, .int (nI (6 * j)))] [] h := by
  refine x_aload_n dL_law_333 rfl ?_
  refine x_aload_n dL_law_334 rfl ?_
  refine x_iload dL_law_335 rfl ?_
  refine x_iconst (v := 1) dL_law_337 (by decide) ?_
  refine x_iadd dL_law_338 ?_
  refine x_top (y := nI ((6 * j) + 1)) (nI_add (6 * j) 1) ?_
  refine x_sld (vp_in_nI (by omega) (by omega)) dL_law_339 ?_
  refine x_top (y := xS G ((6 * j) + 1)) (congrArg (xS G) (nI_clamp (by omega))) ?_
  refine x_aload_n dL_law_340 rfl ?_
  refine x_iload dL_law_341 rfl ?_
  refine x_iconst (v := 2) dL_law_343 (by decide) ?_
  refine x_iadd dL_law_344 ?_
  refine x_top (y := nI ((6 * j) + 2)) (nI_add (6 * j) 2) ?_
  refine x_sld (vp_in_nI (by omega) (by omega)) dL_law_345 ?_
  refine x_top (y := xS G ((6 * j) + 2)) (congrArg (xS G) (nI_clamp (by omega))) ?_
  refine x_aload_n dL_law_346 rfl ?_
  refine x_iload dL_law_347 rfl ?_
  refine x_iconst (v := 3) dL_law_349 (by decide) ?_
  refine x_iadd dL_law_350 ?_
  refine x_top (y := nI ((6 * j) + 3)) (nI_add (6 * j) 3) ?_
  refine x_sld (vp_in_nI (by omega) (by omega)) dL_law_351 ?_
  refine x_top (y := xS G ((6 * j) + 3)) (congrArg (xS G) (nI_clamp (by omega))) ?_
  refine x_if_eq 359 dL_law_352 (by decide) (fun c_352 => ?_) (fun c_352 => ?_)
  · refine x_iconst (v := 0) dL_law_359 (by decide) ?_
    refine x_aload_n dL_law_360 rfl ?_
    refine x_callSH (As := [.ref 1, .int (xS G ((6 * j) + 1)), .int (xS G ((6 * j) + 2)), .int (bi false), .ref 226]) (st := []) lsH_L_43 (p_name I (a := xS G ((6 * j) + 1)) (a2 := xS G ((6 * j) + 2)) (v := false)) dL_law_361 rfl rfl (Nat.le_of_ble_eq_true rfl) ⟨by decide, by decide⟩ ⟨by show uc + 1 ≤ 601024; omega, by show us + 6 ≤ 7293034; omega⟩ (fun v9 h1 z => ?_) (fun _ _ _ _ _ z => by obtain ⟨_, z, _⟩ := z; cases z)
    obtain ⟨k9, ev, ⟨fs2, hc2⟩, o9, hM⟩ := z
    cases ev
    refine x_istore [(0, .ref 0), (1, .ref 1), (2, .ref 205), (3, .ref 226), (4, .int (nI (6 * j))), (5, .int k9)] dL_law_364 (by decide) rfl rfl ?_
    refine x_aload_n dL_law_366 rfl ?_
    refine x_aload_n dL_law_367 rfl ?_
    refine x_iload dL_law_368 rfl ?_
    refine x_iconst (v := 1) dL_law_370 (by decide) ?_
    refine x_iadd dL_law_371 ?_
    refine x_top (y := nI ((6 * j) + 1)) (nI_add (6 * j) 1) ?_
    refine x_sld (vp_in_nI (by omega) (by omega)) dL_law_372 ?_
    refine x_top (y := xS G ((6 * j) + 1)) (congrArg (xS G) (nI_clamp (by omega))) ?_
    refine x_aload_n dL_law_373 rfl ?_
    refine x_iload dL_law_374 rfl ?_
    refine x_iconst (v := 2) dL_law_376 (by decide) ?_
    refine x_iadd dL_law_377 ?_
    refine x_top (y := nI ((6 * j) + 2)) (nI_add (6 * j) 2) ?_
    refine x_sld (vp_in_nI (by omega) (by omega)) dL_law_378 ?_
    refine x_top (y := xS G ((6 * j) + 2)) (congrArg (xS G) (nI_clamp (by omega))) ?_
    refine x_aload_n dL_law_379 rfl ?_
    refine x_iload dL_law_380 rfl ?_
    refine x_iconst (v := 3) dL_law_382 (by decide) ?_
    refine x_iadd dL_law_383 ?_
    refine x_top (y := nI ((6 * j) + 3)) (nI_add (6 * j) 3) ?_
    refine x_sld (vp_in_nI (by omega) (by omega)) dL_law_384 ?_
    refine x_top (y := xS G ((6 * j) + 3)) (congrArg (xS G) (nI_clamp (by omega))) ?_
    refine x_if_eq 392 dL_law_385 (by decide) (fun c_385 => ?_) (fun c_385 => absurd c_352 c_385)
    refine x_iconst (v := 0) dL_law_392 (by decide) ?_
    refine x_callV (As := [.int (xS G ((6 * j) + 1)), .int (xS G ((6 * j) + 2)), .int (bi false)]) (st := []) lv_L_48 hM dL_law_393 hc2 rfl rfl (Nat.le_of_ble_eq_true rfl) ⟨by decide, by decide⟩ ⟨by show uc + 1 + 0 ≤ 601024; omega, by show us + 6 + 0 ≤ 7293034; omega⟩ (fun v9 h2 z => ?_) (fun _ _ _ _ _ z => by obtain ⟨_, z, _⟩ := z; cases z)
    obtain ⟨r, ev, h226, ⟨fs3, hc3⟩, hT, hk0, I2⟩ := z
    cases ev
    refine x_istore [(0, .ref 0), (1, .ref 1), (2, .ref 205), (3, .ref 226), (4, .int (nI (6 * j))), (5, .int k9), (6, .int r)] dL_law_396 (by decide) rfl rfl ?_
    refine x_aload_n dL_law_398 rfl ?_
    refine x_callV (As := []) (st := []) lv_L_49 hT dL_law_399 hc3 rfl rfl (Nat.le_of_ble_eq_true rfl) ⟨by decide, by decide⟩ ⟨by show uc + 1 + 0 + 0 ≤ 601024; omega, by show us + 6 + 0 + 0 ≤ 7293034; omega⟩ (fun v9 h3 z => ?_) (fun _ _ _ _ _ z => by cases z.1)
    obtain ⟨ev, eh⟩ := z
    cases ev
    subst eh
    refine x_iload dL_law_402 rfl ?_
    refine x_icmp_eq 409 dL_law_404 (by decide) (fun c_404 => ?_) (fun c_404 => absurd rfl c_404)
    refine x_iload dL_law_409 rfl ?_
    refine x_if_ne 426 dL_law_411 (by decide) (fun c_411 => ?_) (fun c_411 => ?_)
    · refine x_goto 1009 dL_law_426 (by decide) ?_
      exact x_ls _ [0, 1, 2, 3, 4] rfl (hK _ _ _ _ I2 (by omega) (by omega))
    · refine x_aload_n dL_law_414 rfl ?_
      refine x_iconst (v := 0) dL_law_415 (by decide) ?_
      refine x_laldN (j := 0) h226 rfl (by decide) (by decide) dL_law_416 ?_
      refine x_iload dL_law_417 rfl ?_
      refine x_i2l dL_law_419 ?_
      refine x_lcmp dL_law_420 ?_
      refine x_if_eq 426 dL_law_421 (by decide) (fun c_421 => ?_) (fun c_421 => absurd (by rw [hk0 c_411]; exact lg_cmp_self _) c_421)
      refine x_goto 1009 dL_law_426 (by decide) ?_
      exact x_ls _ [0, 1, 2, 3, 4] rfl (hK _ _ _ _ I2 (by omega) (by omega))
  · refine x_iconst (v := 1) dL_law_355 (by decide) ?_
    refine x_goto 360 dL_law_356 (by decide) ?_
    refine x_aload_n dL_law_360 rfl ?_
    refine x_callSH (As := [.ref 1, .int (xS G ((6 * j) + 1)), .int (xS G ((6 * j) + 2)), .int (bi true), .ref 226]) (st := []) lsH_L_43 (p_name I (a := xS G ((6 * j) + 1)) (a2 := xS G ((6 * j) + 2)) (v := true)) dL_law_361 rfl rfl (Nat.le_of_ble_eq_true rfl) ⟨by decide, by decide⟩ ⟨by show uc + 1 ≤ 601024; omega, by show us + 6 ≤ 7293034; omega⟩ (fun v9 h1 z => ?_) (fun _ _ _ _ _ z => by obtain ⟨_, z, _⟩ := z; cases z)
    obtain ⟨k9, ev, ⟨fs2, hc2⟩, o9, hM⟩ := z
    cases ev
    refine x_istore [(0, .ref 0), (1, .ref 1), (2, .ref 205), (3, .ref 226), (4, .int (nI (6 * j))), (5, .int k9)] dL_law_364 (by decide) rfl rfl ?_
    refine x_aload_n dL_law_366 rfl ?_
    refine x_aload_n dL_law_367 rfl ?_
    refine x_iload dL_law_368 rfl ?_
    refine x_iconst (v := 1) dL_law_370 (by decide) ?_
    refine x_iadd dL_law_371 ?_
    refine x_top (y := nI ((6 * j) + 1)) (nI_add (6 * j) 1) ?_
    refine x_sld (vp_in_nI (by omega) (by omega)) dL_law_372 ?_
    refine x_top (y := xS G ((6 * j) + 1)) (congrArg (xS G) (nI_clamp (by omega))) ?_
    refine x_aload_n dL_law_373 rfl ?_
    refine x_iload dL_law_374 rfl ?_
    refine x_iconst (v := 2) dL_law_376 (by decide) ?_
    refine x_iadd dL_law_377 ?_
    refine x_top (y := nI ((6 * j) + 2)) (nI_add (6 * j) 2) ?_
    refine x_sld (vp_in_nI (by omega) (by omega)) dL_law_378 ?_
    refine x_top (y := xS G ((6 * j) + 2)) (congrArg (xS G) (nI_clamp (by omega))) ?_
    refine x_aload_n dL_law_379 rfl ?_
    refine x_iload dL_law_380 rfl ?_
    refine x_iconst (v := 3) dL_law_382 (by decide) ?_
    refine x_iadd dL_law_383 ?_
    refine x_top (y := nI ((6 * j) + 3)) (nI_add (6 * j) 3) ?_
    refine x_sld (vp_in_nI (by omega) (by omega)) dL_law_384 ?_
    refine x_top (y := xS G ((6 * j) + 3)) (congrArg (xS G) (nI_clamp (by omega))) ?_
    refine x_if_eq 392 dL_law_385 (by decide) (fun c_385 => absurd c_385 c_352) (fun c_385 => ?_)
    refine x_iconst (v := 1) dL_law_388 (by decide) ?_
    refine x_goto 393 dL_law_389 (by decide) ?_
    refine x_callV (As := [.int (xS G ((6 * j) + 1)), .int (xS G ((6 * j) + 2)), .int (bi true)]) (st := []) lv_L_48 hM dL_law_393 hc2 rfl rfl (Nat.le_of_ble_eq_true rfl) ⟨by decide, by decide⟩ ⟨by show uc + 1 + 0 ≤ 601024; omega, by show us + 6 + 0 ≤ 7293034; omega⟩ (fun v9 h2 z => ?_) (fun _ _ _ _ _ z => by obtain ⟨_, z, _⟩ := z; cases z)
    obtain ⟨r, ev, h226, ⟨fs3, hc3⟩, hT, hk0, I2⟩ := z
    cases ev
    refine x_istore [(0, .ref 0), (1, .ref 1), (2, .ref 205), (3, .ref 226), (4, .int (nI (6 * j))), (5, .int k9), (6, .int r)] dL_law_396 (by decide) rfl rfl ?_
    refine x_aload_n dL_law_398 rfl ?_
    refine x_callV (As := []) (st := []) lv_L_49 hT dL_law_399 hc3 rfl rfl (Nat.le_of_ble_eq_true rfl) ⟨by decide, by decide⟩ ⟨by show uc + 1 + 0 + 0 ≤ 601024; omega, by show us + 6 + 0 + 0 ≤ 7293034; omega⟩ (fun v9 h3 z => ?_) (fun _ _ _ _ _ z => by cases z.1)
    obtain ⟨ev, eh⟩ := z
    cases ev
    subst eh
    refine x_iload dL_law_402 rfl ?_
    refine x_icmp_eq 409 dL_law_404 (by decide) (fun c_404 => ?_) (fun c_404 => absurd rfl c_404)
    refine x_iload dL_law_409 rfl ?_
    refine x_if_ne 426 dL_law_411 (by decide) (fun c_411 => ?_) (fun c_411 => ?_)
    · refine x_goto 1009 dL_law_426 (by decide) ?_
      exact x_ls _ [0, 1, 2, 3, 4] rfl (hK _ _ _ _ I2 (by omega) (by omega))
    · refine x_aload_n dL_law_414 rfl ?_
      refine x_iconst (v := 0) dL_law_415 (by decide) ?_
      refine x_laldN (j := 0) h226 rfl (by decide) (by decide) dL_law_416 ?_
      refine x_iload dL_law_417 rfl ?_
      refine x_i2l dL_law_419 ?_
      refine x_lcmp dL_law_420 ?_
      refine x_if_eq 426 dL_law_421 (by decide) (fun c_421 => ?_) (fun c_421 => absurd (by rw [hk0 c_411]; exact lg_cmp_self _) c_421)
      refine x_goto 1009 dL_law_426 (by decide) ?_
      exact x_ls _ [0, 1, 2, 3, 4] rfl (hK _ _ _ _ I2 (by omega) (by omega))
