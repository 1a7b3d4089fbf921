theorem xm1 {w : Cond} (n : Nat) (h : tables_1_1[n]? = some w) : w ∈ lw_tbl := List.mem_append_right _ (List.mem_append_left _ (List.mem_of_getElem? h))
theorem xm2 {w : Cond} (n : Nat) (h : tables_1_2[n]? = some w) : w ∈ lw_tbl := List.mem_append_right _ (List.mem_append_right _ (List.mem_append_left _ (List.mem_of_getElem? h)))
theorem xm3 {w : Cond} (n : Nat) (h : tables_1_3[n]? = some w) : w ∈ lw_tbl := List.mem_append_right _ (List.mem_append_right _ (List.mem_append_right _ (List.mem_append_left _ (List.mem_of_getElem? h))))
theorem xm4 {w : Cond} (n : Nat) (h : tables_1_4[n]? = some w) : w ∈ lw_tbl := List.mem_append_right _ (List.mem_append_right _ (List.mem_append_right _ (List.mem_append_right _ (List.mem_append_left _ (List.mem_of_getElem? h)))))
theorem xm5 {w : Cond} (n : Nat) (h : tables_1_5[n]? = some w) : w ∈ lw_tbl := List.mem_append_right _ (List.mem_append_right _ (List.mem_append_right _ (List.mem_append_right _ (List.mem_append_right _ (List.mem_append_left _ (List.mem_of_getElem? h))))))
theorem xm6 {w : Cond} (n : Nat) (h : tables_1_6[n]? = some w) : w ∈ lw_tbl := List.mem_append_right _ (List.mem_append_right _ (List.mem_append_right _ (List.mem_append_right _ (List.mem_append_right _ (List.mem_append_right _ (List.mem_of_getElem? h))))))
theorem xmem0 {w : Cond} (n : Nat) (h : (k2_sels lw_privs)[n]? = some w) : w ∈ lw_tbl := List.mem_append_left _ (List.mem_of_getElem? h)
set_option maxRecDepth 20000 in
theorem ac_int : Cond.arrayClass .int ∈ lw_tbl := xm1 55 rfl
set_option maxRecDepth 20000 in
theorem ac_long : Cond.arrayClass .long ∈ lw_tbl := xm1 56 rfl
set_option maxRecDepth 20000 in
theorem ao_X8 : Cond.arrayOver (.object RX8) ∈ lw_tbl := xm1 71 rfl
set_option maxRecDepth 20000 in
theorem ao_X9 : Cond.arrayOver (.object RX9) ∈ lw_tbl := xm1 129 rfl
set_option maxRecDepth 20000 in
theorem kl_X7_171 : Cond.constantLong RX7 171 7630702 ∈ lw_tbl := xm2 234 rfl
set_option maxRecDepth 20000 in
theorem kc_X5_43 : Cond.constant RX5 43 2147483647 ∈ lw_tbl := xm3 142 rfl
set_option maxRecDepth 20000 in
theorem kc_J6_265 : Cond.constant RJ6 265 1431655765 ∈ lw_tbl := xm3 216 rfl
set_option maxRecDepth 20000 in
theorem kc_J6_266 : Cond.constant RJ6 266 858993459 ∈ lw_tbl := xm3 217 rfl
set_option maxRecDepth 20000 in
theorem kc_J6_267 : Cond.constant RJ6 267 252645135 ∈ lw_tbl := xm3 218 rfl
set_option maxRecDepth 20000 in
theorem ac_byte : Cond.arrayClass .byte ∈ lw_tbl := xm4 183 rfl
set_option maxRecDepth 20000 in
theorem ao_X12 : Cond.arrayOver (.object RX12) ∈ lw_tbl := xm4 191 rfl
set_option maxRecDepth 20000 in
theorem ac_boolean : Cond.arrayClass .boolean ∈ lw_tbl := xm4 221 rfl
set_option maxRecDepth 20000 in
theorem kl_X14_129 : Cond.constantLong RX14 129 32 ∈ lw_tbl := xm5 139 rfl
set_option maxRecDepth 20000 in
theorem kl_X14_134 : Cond.constantLong RX14 134 14836 ∈ lw_tbl := xm5 188 rfl
set_option maxRecDepth 20000 in
theorem kl_X14_242 : Cond.constantLong RX14 242 31 ∈ lw_tbl := xm6 16 rfl
set_option maxRecDepth 20000 in
theorem kc_X14_253 : Cond.constant RX14 253 1000000 ∈ lw_tbl := xm6 53 rfl
theorem xin0 : ∀ w ∈ u_ws RX0 TX0 8, w ∈ lw_tbl := by
  intro w hw
  obtain ⟨k, hk, rfl⟩ := List.mem_map.mp hw
  have hk := List.mem_range.mp hk
  exact match k, hk with
    | 0, _ => xm1 192 rfl
    | 1, _ => xm1 194 rfl
    | 2, _ => xm1 196 rfl
    | 3, _ => xm1 198 rfl
    | 4, _ => xm1 200 rfl
    | 5, _ => xm1 202 rfl
    | 6, _ => xm1 204 rfl
    | 7, _ => xm1 206 rfl
    | q + 8, h => absurd h (by omega)
theorem xc0 : xCF 0 RX0 TX0 8 tyX0 := ⟨rfl, xin0, tyX0_ok, nmX0⟩
theorem xin1 : ∀ w ∈ u_ws RX1 TX1 10, w ∈ lw_tbl := by
  intro w hw
  obtain ⟨k, hk, rfl⟩ := List.mem_map.mp hw
  have hk := List.mem_range.mp hk
  exact match k, hk with
    | 0, _ => xm2 122 rfl
    | 1, _ => xm2 124 rfl
    | 2, _ => xm2 126 rfl
    | 3, _ => xm2 128 rfl
    | 4, _ => xm2 130 rfl
    | 5, _ => xm2 132 rfl
    | 6, _ => xm2 134 rfl
    | 7, _ => xm2 136 rfl
    | 8, _ => xm2 138 rfl
    | 9, _ => xm2 140 rfl
    | q + 10, h => absurd h (by omega)
theorem xc1 : xCF 1 RX1 TX1 10 tyX1 := ⟨rfl, xin1, tyX1_ok, nmX1⟩
theorem xin2 : ∀ w ∈ u_ws RX2 TX2 9, w ∈ lw_tbl := by
  intro w hw
  obtain ⟨k, hk, rfl⟩ := List.mem_map.mp hw
  have hk := List.mem_range.mp hk
  exact match k, hk with
    | 0, _ => xm2 41 rfl
    | 1, _ => xm2 43 rfl
    | 2, _ => xm2 45 rfl
    | 3, _ => xm2 47 rfl
    | 4, _ => xm2 49 rfl
    | 5, _ => xm2 51 rfl
    | 6, _ => xm2 53 rfl
    | 7, _ => xm2 55 rfl
    | 8, _ => xm2 57 rfl
    | q + 9, h => absurd h (by omega)
theorem xc2 : xCF 2 RX2 TX2 9 tyX2 := ⟨rfl, xin2, tyX2_ok, nmX2⟩
theorem xin3 : ∀ w ∈ u_ws RX3 TX3 3, w ∈ lw_tbl := by
  intro w hw
  obtain ⟨k, hk, rfl⟩ := List.mem_map.mp hw
  have hk := List.mem_range.mp hk
  exact match k, hk with
    | 0, _ => xm2 69 rfl
    | 1, _ => xm2 71 rfl
    | 2, _ => xm2 73 rfl
    | q + 3, h => absurd h (by omega)
theorem xc3 : xCF 3 RX3 TX3 3 tyX3 := ⟨rfl, xin3, tyX3_ok, nmX3⟩
theorem xin4 : ∀ w ∈ u_ws RX4 TX4 1, w ∈ lw_tbl := by
  intro w hw
  obtain ⟨k, hk, rfl⟩ := List.mem_map.mp hw
  have hk := List.mem_range.mp hk
  exact match k, hk with
    | 0, _ => xm1 67 rfl
    | q + 1, h => absurd h (by omega)
theorem xc4 : xCF 4 RX4 TX4 1 tyX4 := ⟨rfl, xin4, tyX4_ok, nmX4⟩
theorem xin5 : ∀ w ∈ u_ws RX5 TX5 5, w ∈ lw_tbl := by
  intro w hw
  obtain ⟨k, hk, rfl⟩ := List.mem_map.mp hw
  have hk := List.mem_range.mp hk
  exact match k, hk with
    | 0, _ => xm2 93 rfl
    | 1, _ => xm2 95 rfl
    | 2, _ => xm2 97 rfl
    | 3, _ => xm2 99 rfl
    | 4, _ => xm2 101 rfl
    | q + 5, h => absurd h (by omega)
theorem xc5 : xCF 5 RX5 TX5 5 tyX5 := ⟨rfl, xin5, tyX5_ok, nmX5⟩
theorem xin6 : ∀ w ∈ u_ws RX6 TX6 2, w ∈ lw_tbl := by
  intro w hw
  obtain ⟨k, hk, rfl⟩ := List.mem_map.mp hw
  have hk := List.mem_range.mp hk
  exact match k, hk with
    | 0, _ => xm1 50 rfl
    | 1, _ => xm1 52 rfl
    | q + 2, h => absurd h (by omega)
theorem xc6 : xCF 6 RX6 TX6 2 tyX6 := ⟨rfl, xin6, tyX6_ok, nmX6⟩
theorem xin7 : ∀ w ∈ u_ws RX7 TX7 8, w ∈ lw_tbl := by
  intro w hw
  obtain ⟨k, hk, rfl⟩ := List.mem_map.mp hw
  have hk := List.mem_range.mp hk
  exact match k, hk with
    | 0, _ => xm2 9 rfl
    | 1, _ => xm2 11 rfl
    | 2, _ => xm2 13 rfl
    | 3, _ => xm2 15 rfl
    | 4, _ => xm2 17 rfl
    | 5, _ => xm2 19 rfl
    | 6, _ => xm2 21 rfl
    | 7, _ => xm2 23 rfl
    | q + 8, h => absurd h (by omega)
theorem xc7 : xCF 7 RX7 TX7 8 tyX7 := ⟨rfl, xin7, tyX7_ok, nmX7⟩
theorem xin8 : ∀ w ∈ u_ws RX8 TX8 5, w ∈ lw_tbl := by
  intro w hw
  obtain ⟨k, hk, rfl⟩ := List.mem_map.mp hw
  have hk := List.mem_range.mp hk
  exact match k, hk with
    | 0, _ => xm1 154 rfl
    | 1, _ => xm1 156 rfl
    | 2, _ => xm1 158 rfl
    | 3, _ => xm1 160 rfl
    | 4, _ => xm1 162 rfl
    | q + 5, h => absurd h (by omega)
theorem xc8 : xCF 8 RX8 TX8 5 tyX8 := ⟨rfl, xin8, tyX8_ok, nmX8⟩
theorem xin9 : ∀ w ∈ u_ws RX9 TX9 7, w ∈ lw_tbl := by
  intro w hw
  obtain ⟨k, hk, rfl⟩ := List.mem_map.mp hw
  have hk := List.mem_range.mp hk
  exact match k, hk with
    | 0, _ => xm1 114 rfl
    | 1, _ => xm1 116 rfl
    | 2, _ => xm1 118 rfl
    | 3, _ => xm1 120 rfl
    | 4, _ => xm1 122 rfl
    | 5, _ => xm1 124 rfl
    | 6, _ => xm1 126 rfl
    | q + 7, h => absurd h (by omega)
theorem xc9 : xCF 9 RX9 TX9 7 tyX9 := ⟨rfl, xin9, tyX9_ok, nmX9⟩
theorem xin10 : ∀ w ∈ u_ws RX10 TX10 4, w ∈ lw_tbl := by
  intro w hw
  obtain ⟨k, hk, rfl⟩ := List.mem_map.mp hw
  have hk := List.mem_range.mp hk
  exact match k, hk with
    | 0, _ => xm1 229 rfl
    | 1, _ => xm1 231 rfl
    | 2, _ => xm1 233 rfl
    | 3, _ => xm1 235 rfl
    | q + 4, h => absurd h (by omega)
theorem xc10 : xCF 10 RX10 TX10 4 tyX10 := ⟨rfl, xin10, tyX10_ok, nmX10⟩
theorem xin11 : ∀ w ∈ u_ws RX11 TX11 13, w ∈ lw_tbl := by
  intro w hw
  obtain ⟨k, hk, rfl⟩ := List.mem_map.mp hw
  have hk := List.mem_range.mp hk
  exact match k, hk with
    | 0, _ => xm2 156 rfl
    | 1, _ => xm2 158 rfl
    | 2, _ => xm2 160 rfl
    | 3, _ => xm2 162 rfl
    | 4, _ => xm2 164 rfl
    | 5, _ => xm2 166 rfl
    | 6, _ => xm2 168 rfl
    | 7, _ => xm2 170 rfl
    | 8, _ => xm2 172 rfl
    | 9, _ => xm2 174 rfl
    | 10, _ => xm2 176 rfl
    | 11, _ => xm2 178 rfl
    | 12, _ => xm2 180 rfl
    | q + 13, h => absurd h (by omega)
theorem xc11 : xCF 11 RX11 TX11 13 tyX11 := ⟨rfl, xin11, tyX11_ok, nmX11⟩
theorem xin12 : ∀ w ∈ u_ws RX12 TX12 8, w ∈ lw_tbl := by
  intro w hw
  obtain ⟨k, hk, rfl⟩ := List.mem_map.mp hw
  have hk := List.mem_range.mp hk
  exact match k, hk with
    | 0, _ => xm5 163 rfl
    | 1, _ => xm5 165 rfl
    | 2, _ => xm5 167 rfl
    | 3, _ => xm5 169 rfl
    | 4, _ => xm5 171 rfl
    | 5, _ => xm5 173 rfl
    | 6, _ => xm5 175 rfl
    | 7, _ => xm5 177 rfl
    | q + 8, h => absurd h (by omega)
theorem xc12 : xCF 12 RX12 TX12 8 tyX12 := ⟨rfl, xin12, tyX12_ok, nmX12⟩
theorem xin13 : ∀ w ∈ u_ws RX13 TX13 8, w ∈ lw_tbl := by
  intro w hw
  obtain ⟨k, hk, rfl⟩ := List.mem_map.mp hw
  have hk := List.mem_range.mp hk
  exact match k, hk with
    | 0, _ => xm4 196 rfl
    | 1, _ => xm4 197 rfl
    | 2, _ => xm4 198 rfl
    | 3, _ => xm4 199 rfl
    | 4, _ => xm4 200 rfl
    | 5, _ => xm4 219 rfl
    | 6, _ => xm4 215 rfl
    | 7, _ => xm4 217 rfl
    | q + 8, h => absurd h (by omega)
theorem xc13 : xCF 13 RX13 TX13 8 tyX13 := ⟨rfl, xin13, tyX13_ok, nmX13⟩
theorem xin14 : ∀ w ∈ u_ws RX14 TX14 43, w ∈ lw_tbl := by
  intro w hw
  obtain ⟨k, hk, rfl⟩ := List.mem_map.mp hw
  have hk := List.mem_range.mp hk
  exact match k, hk with
    | 0, _ => xm5 25 rfl
    | 1, _ => xm5 27 rfl
    | 2, _ => xm5 29 rfl
    | 3, _ => xm5 31 rfl
    | 4, _ => xm5 33 rfl
    | 5, _ => xm5 35 rfl
    | 6, _ => xm5 37 rfl
    | 7, _ => xm5 39 rfl
    | 8, _ => xm5 41 rfl
    | 9, _ => xm5 43 rfl
    | 10, _ => xm5 45 rfl
    | 11, _ => xm5 47 rfl
    | 12, _ => xm5 49 rfl
    | 13, _ => xm5 51 rfl
    | 14, _ => xm5 53 rfl
    | 15, _ => xm5 55 rfl
    | 16, _ => xm5 57 rfl
    | 17, _ => xm5 59 rfl
    | 18, _ => xm5 61 rfl
    | 19, _ => xm5 63 rfl
    | 20, _ => xm5 65 rfl
    | 21, _ => xm5 67 rfl
    | 22, _ => xm5 69 rfl
    | 23, _ => xm5 71 rfl
    | 24, _ => xm5 73 rfl
    | 25, _ => xm5 75 rfl
    | 26, _ => xm5 77 rfl
    | 27, _ => xm5 79 rfl
    | 28, _ => xm5 81 rfl
    | 29, _ => xm5 83 rfl
    | 30, _ => xm5 85 rfl
    | 31, _ => xm5 87 rfl
    | 32, _ => xm5 89 rfl
    | 33, _ => xm5 91 rfl
    | 34, _ => xm5 93 rfl
    | 35, _ => xm5 95 rfl
    | 36, _ => xm5 97 rfl
    | 37, _ => xm5 99 rfl
    | 38, _ => xm5 101 rfl
    | 39, _ => xm5 103 rfl
    | 40, _ => xm5 105 rfl
    | 41, _ => xm5 107 rfl
    | 42, _ => xm5 109 rfl
    | q + 43, h => absurd h (by omega)
theorem xc14 : xCF 14 RX14 TX14 43 tyX14 := ⟨rfl, xin14, tyX14_ok, nmX14⟩
set_option maxRecDepth 20000 in
theorem it_X11 : Cond.instantiable RX11 13 ∈ lw_tbl := xm1 25 rfl
set_option maxRecDepth 20000 in
theorem it_X0 : Cond.instantiable RX0 8 ∈ lw_tbl := xm1 33 rfl
set_option maxRecDepth 20000 in
theorem it_X6 : Cond.instantiable RX6 2 ∈ lw_tbl := xm1 39 rfl
set_option maxRecDepth 20000 in
theorem it_X4 : Cond.instantiable RX4 1 ∈ lw_tbl := xm1 58 rfl
set_option maxRecDepth 20000 in
theorem it_X8 : Cond.instantiable RX8 5 ∈ lw_tbl := xm1 72 rfl
set_option maxRecDepth 20000 in
theorem it_X9 : Cond.instantiable RX9 7 ∈ lw_tbl := xm1 78 rfl
set_option maxRecDepth 20000 in
theorem it_X7 : Cond.instantiable RX7 8 ∈ lw_tbl := xm1 210 rfl
set_option maxRecDepth 20000 in
theorem it_X10 : Cond.instantiable RX10 4 ∈ lw_tbl := xm1 216 rfl
set_option maxRecDepth 20000 in
theorem it_X2 : Cond.instantiable RX2 9 ∈ lw_tbl := xm2 27 rfl
set_option maxRecDepth 20000 in
theorem it_X3 : Cond.instantiable RX3 3 ∈ lw_tbl := xm2 61 rfl
set_option maxRecDepth 20000 in
theorem it_X5 : Cond.instantiable RX5 5 ∈ lw_tbl := xm2 77 rfl
set_option maxRecDepth 20000 in
theorem it_X1 : Cond.instantiable RX1 10 ∈ lw_tbl := xm2 105 rfl
set_option maxRecDepth 20000 in
theorem it_X14 : Cond.instantiable RX14 43 ∈ lw_tbl := xm4 185 rfl
set_option maxRecDepth 20000 in
theorem it_X13 : Cond.instantiable RX13 8 ∈ lw_tbl := xm4 193 rfl
set_option maxRecDepth 20000 in
theorem it_X12 : Cond.instantiable RX12 8 ∈ lw_tbl := xm5 144 rfl
set_option maxRecDepth 20000 in
theorem in_L : Cond.initialized RL ∈ lw_tbl := xm1 0 rfl
set_option maxRecDepth 20000 in
theorem in_X11 : Cond.initialized RX11 ∈ lw_tbl := xm1 1 rfl
set_option maxRecDepth 20000 in
theorem in_X0 : Cond.initialized RX0 ∈ lw_tbl := xm1 2 rfl
set_option maxRecDepth 20000 in
theorem in_X6 : Cond.initialized RX6 ∈ lw_tbl := xm1 3 rfl
set_option maxRecDepth 20000 in
theorem in_X4 : Cond.initialized RX4 ∈ lw_tbl := xm1 4 rfl
set_option maxRecDepth 20000 in
theorem in_X8 : Cond.initialized RX8 ∈ lw_tbl := xm1 5 rfl
set_option maxRecDepth 20000 in
theorem in_X9 : Cond.initialized RX9 ∈ lw_tbl := xm1 6 rfl
set_option maxRecDepth 20000 in
theorem in_X7 : Cond.initialized RX7 ∈ lw_tbl := xm1 7 rfl
set_option maxRecDepth 20000 in
theorem in_X10 : Cond.initialized RX10 ∈ lw_tbl := xm1 8 rfl
set_option maxRecDepth 20000 in
theorem in_X2 : Cond.initialized RX2 ∈ lw_tbl := xm1 9 rfl
set_option maxRecDepth 20000 in
theorem in_X3 : Cond.initialized RX3 ∈ lw_tbl := xm1 10 rfl
set_option maxRecDepth 20000 in
theorem in_X5 : Cond.initialized RX5 ∈ lw_tbl := xm1 11 rfl
set_option maxRecDepth 20000 in
theorem in_X1 : Cond.initialized RX1 ∈ lw_tbl := xm1 12 rfl
set_option maxRecDepth 20000 in
theorem in_X14 : Cond.initialized RX14 ∈ lw_tbl := xm1 13 rfl
set_option maxRecDepth 20000 in
theorem in_X13 : Cond.initialized RX13 ∈ lw_tbl := xm1 17 rfl
set_option maxRecDepth 20000 in
theorem in_J9 : Cond.initialized RJ9 ∈ lw_tbl := xm1 18 rfl
set_option maxRecDepth 20000 in
theorem in_J7 : Cond.initialized RJ7 ∈ lw_tbl := xm1 19 rfl
set_option maxRecDepth 20000 in
theorem in_X12 : Cond.initialized RX12 ∈ lw_tbl := xm1 20 rfl
set_option maxRecDepth 20000 in
theorem in_J10 : Cond.initialized RJ10 ∈ lw_tbl := xm1 22 rfl
set_option maxRecDepth 20000 in
theorem in_J6 : Cond.initialized RJ6 ∈ lw_tbl := xm1 23 rfl
set_option maxRecDepth 20000 in
theorem in_Math : Cond.initialized "java/lang/Math" ∈ lw_tbl := xm1 18 rfl
set_option maxRecDepth 20000 in
theorem ck_L_8 : Cond.classLink RL 8 RX11 ∈ lw_tbl := xm1 24 rfl
set_option maxRecDepth 20000 in
theorem ck_X11_13 : Cond.classLink RX11 13 RX0 ∈ lw_tbl := xm1 32 rfl
set_option maxRecDepth 20000 in
theorem ck_X0_9 : Cond.classLink RX0 9 RX6 ∈ lw_tbl := xm1 38 rfl
set_option maxRecDepth 20000 in
theorem ck_X0_25 : Cond.classLink RX0 25 RX4 ∈ lw_tbl := xm1 57 rfl
set_option maxRecDepth 20000 in
theorem ck_X0_32 : Cond.classLink RX0 32 RX8 ∈ lw_tbl := xm1 70 rfl
set_option maxRecDepth 20000 in
theorem ck_X8_9 : Cond.classLink RX8 9 RX9 ∈ lw_tbl := xm1 77 rfl
set_option maxRecDepth 20000 in
theorem ck_X11_20 : Cond.classLink RX11 20 RX7 ∈ lw_tbl := xm1 209 rfl
set_option maxRecDepth 20000 in
theorem ck_X7_9 : Cond.classLink RX7 9 RX10 ∈ lw_tbl := xm1 215 rfl
set_option maxRecDepth 20000 in
theorem ck_X11_29 : Cond.classLink RX11 29 RX2 ∈ lw_tbl := xm2 26 rfl
set_option maxRecDepth 20000 in
theorem ck_X11_36 : Cond.classLink RX11 36 RX3 ∈ lw_tbl := xm2 60 rfl
set_option maxRecDepth 20000 in
theorem ck_X11_45 : Cond.classLink RX11 45 RX5 ∈ lw_tbl := xm2 76 rfl
set_option maxRecDepth 20000 in
theorem ck_X11_57 : Cond.classLink RX11 57 RX1 ∈ lw_tbl := xm2 104 rfl
set_option maxRecDepth 20000 in
theorem ck_L_13 : Cond.classLink RL 13 "java/util/NoSuchElementException" ∈ lw_tbl := xm4 107 rfl
set_option maxRecDepth 20000 in
theorem ck_X11_124 : Cond.classLink RX11 124 "java/util/NoSuchElementException" ∈ lw_tbl := xm4 117 rfl
set_option maxRecDepth 20000 in
theorem ck_L_16 : Cond.classLink RL 16 RX14 ∈ lw_tbl := xm4 184 rfl
set_option maxRecDepth 20000 in
theorem ck_X14_40 : Cond.classLink RX14 40 RX12 ∈ lw_tbl := xm4 190 rfl
set_option maxRecDepth 20000 in
theorem ck_X14_46 : Cond.classLink RX14 46 RX13 ∈ lw_tbl := xm4 192 rfl
set_option maxRecDepth 20000 in
theorem lf_X6_9 : xLF RX6 9 6 0 (tyX6 0) true RX6 := ⟨_, _, _, _, xc6, by decide, tyX6_ok 0 (by decide), rfl, rfl, Or.inl (xm1 44 rfl)⟩
set_option maxRecDepth 20000 in
theorem lf_X6_15 : xLF RX6 15 6 1 (tyX6 1) false RX6 := ⟨_, _, _, _, xc6, by decide, tyX6_ok 1 (by decide), rfl, rfl, Or.inl (xm1 45 rfl)⟩
set_option maxRecDepth 20000 in
theorem lf_X4_9 : xLF RX4 9 4 0 (tyX4 0) true RX4 := ⟨_, _, _, _, xc4, by decide, tyX4_ok 0 (by decide), rfl, rfl, Or.inl (xm1 63 rfl)⟩
set_option maxRecDepth 20000 in
theorem lf_X9_9 : xLF RX9 9 9 0 (tyX9 0) false RX9 := ⟨_, _, _, _, xc9, by decide, tyX9_ok 0 (by decide), rfl, rfl, Or.inl (xm1 83 rfl)⟩
set_option maxRecDepth 20000 in
theorem lf_X9_15 : xLF RX9 15 9 1 (tyX9 1) false RX9 := ⟨_, _, _, _, xc9, by decide, tyX9_ok 1 (by decide), rfl, rfl, Or.inl (xm1 90 rfl)⟩
set_option maxRecDepth 20000 in
theorem lf_X9_18 : xLF RX9 18 9 2 (tyX9 2) false RX9 := ⟨_, _, _, _, xc9, by decide, tyX9_ok 2 (by decide), rfl, rfl, Or.inl (xm1 97 rfl)⟩
set_option maxRecDepth 20000 in
theorem lf_X9_21 : xLF RX9 21 9 3 (tyX9 3) false RX9 := ⟨_, _, _, _, xc9, by decide, tyX9_ok 3 (by decide), rfl, rfl, Or.inl (xm1 102 rfl)⟩
set_option maxRecDepth 20000 in
theorem lf_X9_24 : xLF RX9 24 9 5 (tyX9 5) false RX9 := ⟨_, _, _, _, xc9, by decide, tyX9_ok 5 (by decide), rfl, rfl, Or.inl (xm1 108 rfl)⟩
set_option maxRecDepth 20000 in
theorem lf_X9_27 : xLF RX9 27 9 6 (tyX9 6) false RX9 := ⟨_, _, _, _, xc9, by decide, tyX9_ok 6 (by decide), rfl, rfl, Or.inl (xm1 111 rfl)⟩
set_option maxRecDepth 20000 in
theorem lf_X8_12 : xLF RX8 12 8 0 (tyX8 0) true RX8 := ⟨_, _, _, _, xc8, by decide, tyX8_ok 0 (by decide), rfl, rfl, Or.inl (xm1 130 rfl)⟩
set_option maxRecDepth 20000 in
theorem lf_X8_18 : xLF RX8 18 8 1 (tyX8 1) true RX8 := ⟨_, _, _, _, xc8, by decide, tyX8_ok 1 (by decide), rfl, rfl, Or.inl (xm1 137 rfl)⟩
set_option maxRecDepth 20000 in
theorem lf_X8_26 : xLF RX8 26 8 2 (tyX8 2) false RX8 := ⟨_, _, _, _, xc8, by decide, tyX8_ok 2 (by decide), rfl, rfl, Or.inl (xm1 144 rfl)⟩
set_option maxRecDepth 20000 in
theorem lf_X8_22 : xLF RX8 22 8 3 (tyX8 3) true RX8 := ⟨_, _, _, _, xc8, by decide, tyX8_ok 3 (by decide), rfl, rfl, Or.inl (xm1 151 rfl)⟩
set_option maxRecDepth 20000 in
theorem lf_X8_30 : xLF RX8 30 8 4 (tyX8 4) false RX8 := ⟨_, _, _, _, xc8, by decide, tyX8_ok 4 (by decide), rfl, rfl, Or.inl (xm1 152 rfl)⟩
set_option maxRecDepth 20000 in
theorem lf_X0_12 : xLF RX0 12 0 0 (tyX0 0) true RX0 := ⟨_, _, _, _, xc0, by decide, tyX0_ok 0 (by decide), rfl, rfl, Or.inl (xm1 165 rfl)⟩
set_option maxRecDepth 20000 in
theorem lf_X0_18 : xLF RX0 18 0 1 (tyX0 1) true RX0 := ⟨_, _, _, _, xc0, by decide, tyX0_ok 1 (by decide), rfl, rfl, Or.inl (xm1 168 rfl)⟩
set_option maxRecDepth 20000 in
theorem lf_X0_21 : xLF RX0 21 0 2 (tyX0 2) true RX0 := ⟨_, _, _, _, xc0, by decide, tyX0_ok 2 (by decide), rfl, rfl, Or.inl (xm1 172 rfl)⟩
set_option maxRecDepth 20000 in
theorem lf_X0_28 : xLF RX0 28 0 3 (tyX0 3) true RX0 := ⟨_, _, _, _, xc0, by decide, tyX0_ok 3 (by decide), rfl, rfl, Or.inl (xm1 175 rfl)⟩
set_option maxRecDepth 20000 in
theorem lf_X0_34 : xLF RX0 34 0 4 (tyX0 4) true RX0 := ⟨_, _, _, _, xc0, by decide, tyX0_ok 4 (by decide), rfl, rfl, Or.inl (xm1 179 rfl)⟩
set_option maxRecDepth 20000 in
theorem lf_X0_42 : xLF RX0 42 0 5 (tyX0 5) false RX0 := ⟨_, _, _, _, xc0, by decide, tyX0_ok 5 (by decide), rfl, rfl, Or.inl (xm1 183 rfl)⟩
set_option maxRecDepth 20000 in
theorem lf_X0_38 : xLF RX0 38 0 6 (tyX0 6) true RX0 := ⟨_, _, _, _, xc0, by decide, tyX0_ok 6 (by decide), rfl, rfl, Or.inl (xm1 187 rfl)⟩
set_option maxRecDepth 20000 in
theorem lf_X0_56 : xLF RX0 56 0 7 (tyX0 7) false RX0 := ⟨_, _, _, _, xc0, by decide, tyX0_ok 7 (by decide), rfl, rfl, Or.inl (xm1 190 rfl)⟩
set_option maxRecDepth 20000 in
theorem lf_X10_9 : xLF RX10 9 10 0 (tyX10 0) true RX10 := ⟨_, _, _, _, xc10, by decide, tyX10_ok 0 (by decide), rfl, rfl, Or.inl (xm1 221 rfl)⟩
set_option maxRecDepth 20000 in
theorem lf_X10_15 : xLF RX10 15 10 1 (tyX10 1) true RX10 := ⟨_, _, _, _, xc10, by decide, tyX10_ok 1 (by decide), rfl, rfl, Or.inl (xm1 223 rfl)⟩
set_option maxRecDepth 20000 in
theorem lf_X10_18 : xLF RX10 18 10 2 (tyX10 2) true RX10 := ⟨_, _, _, _, xc10, by decide, tyX10_ok 2 (by decide), rfl, rfl, Or.inl (xm1 225 rfl)⟩
set_option maxRecDepth 20000 in
theorem lf_X10_22 : xLF RX10 22 10 3 (tyX10 3) false RX10 := ⟨_, _, _, _, xc10, by decide, tyX10_ok 3 (by decide), rfl, rfl, Or.inl (xm1 227 rfl)⟩
set_option maxRecDepth 20000 in
theorem lf_X7_22 : xLF RX7 22 7 0 (tyX7 0) true RX7 := ⟨_, _, _, _, xc7, by decide, tyX7_ok 0 (by decide), rfl, rfl, Or.inl (xm1 238 rfl)⟩
set_option maxRecDepth 20000 in
theorem lf_X7_12 : xLF RX7 12 7 1 (tyX7 1) true RX7 := ⟨_, _, _, _, xc7, by decide, tyX7_ok 1 (by decide), rfl, rfl, Or.inl (xm1 239 rfl)⟩
set_option maxRecDepth 20000 in
theorem lf_X7_48 : xLF RX7 48 7 2 (tyX7 2) false RX7 := ⟨_, _, _, _, xc7, by decide, tyX7_ok 2 (by decide), rfl, rfl, Or.inl (xm2 0 rfl)⟩
set_option maxRecDepth 20000 in
theorem lf_X7_18 : xLF RX7 18 7 3 (tyX7 3) true RX7 := ⟨_, _, _, _, xc7, by decide, tyX7_ok 3 (by decide), rfl, rfl, Or.inl (xm2 1 rfl)⟩
set_option maxRecDepth 20000 in
theorem lf_X7_51 : xLF RX7 51 7 4 (tyX7 4) false RX7 := ⟨_, _, _, _, xc7, by decide, tyX7_ok 4 (by decide), rfl, rfl, Or.inl (xm2 2 rfl)⟩
set_option maxRecDepth 20000 in
theorem lf_X7_54 : xLF RX7 54 7 5 (tyX7 5) false RX7 := ⟨_, _, _, _, xc7, by decide, tyX7_ok 5 (by decide), rfl, rfl, Or.inl (xm2 3 rfl)⟩
set_option maxRecDepth 20000 in
theorem lf_X7_57 : xLF RX7 57 7 6 (tyX7 6) false RX7 := ⟨_, _, _, _, xc7, by decide, tyX7_ok 6 (by decide), rfl, rfl, Or.inl (xm2 5 rfl)⟩
set_option maxRecDepth 20000 in
theorem lf_X7_60 : xLF RX7 60 7 7 (tyX7 7) false RX7 := ⟨_, _, _, _, xc7, by decide, tyX7_ok 7 (by decide), rfl, rfl, Or.inl (xm2 7 rfl)⟩
set_option maxRecDepth 20000 in
theorem lf_X2_18 : xLF RX2 18 2 0 (tyX2 0) true RX2 := ⟨_, _, _, _, xc2, by decide, tyX2_ok 0 (by decide), rfl, rfl, Or.inl (xm2 32 rfl)⟩
set_option maxRecDepth 20000 in
theorem lf_X2_65 : xLF RX2 65 2 1 (tyX2 1) false RX2 := ⟨_, _, _, _, xc2, by decide, tyX2_ok 1 (by decide), rfl, rfl, Or.inl (xm2 33 rfl)⟩
set_option maxRecDepth 20000 in
theorem lf_X2_69 : xLF RX2 69 2 2 (tyX2 2) false RX2 := ⟨_, _, _, _, xc2, by decide, tyX2_ok 2 (by decide), rfl, rfl, Or.inl (xm2 34 rfl)⟩
set_option maxRecDepth 20000 in
theorem lf_X2_73 : xLF RX2 73 2 3 (tyX2 3) false RX2 := ⟨_, _, _, _, xc2, by decide, tyX2_ok 3 (by decide), rfl, rfl, Or.inl (xm2 35 rfl)⟩
set_option maxRecDepth 20000 in
theorem lf_X2_9 : xLF RX2 9 2 4 (tyX2 4) true RX2 := ⟨_, _, _, _, xc2, by decide, tyX2_ok 4 (by decide), rfl, rfl, Or.inl (xm2 36 rfl)⟩
set_option maxRecDepth 20000 in
theorem lf_X2_30 : xLF RX2 30 2 5 (tyX2 5) false RX2 := ⟨_, _, _, _, xc2, by decide, tyX2_ok 5 (by decide), rfl, rfl, Or.inl (xm2 37 rfl)⟩
set_option maxRecDepth 20000 in
theorem lf_X2_57 : xLF RX2 57 2 6 (tyX2 6) false RX2 := ⟨_, _, _, _, xc2, by decide, tyX2_ok 6 (by decide), rfl, rfl, Or.inl (xm2 38 rfl)⟩
set_option maxRecDepth 20000 in
theorem lf_X2_54 : xLF RX2 54 2 7 (tyX2 7) false RX2 := ⟨_, _, _, _, xc2, by decide, tyX2_ok 7 (by decide), rfl, rfl, Or.inl (xm2 39 rfl)⟩
set_option maxRecDepth 20000 in
theorem lf_X2_15 : xLF RX2 15 2 8 (tyX2 8) true RX2 := ⟨_, _, _, _, xc2, by decide, tyX2_ok 8 (by decide), rfl, rfl, Or.inl (xm2 40 rfl)⟩
set_option maxRecDepth 20000 in
theorem lf_X3_15 : xLF RX3 15 3 0 (tyX3 0) true RX3 := ⟨_, _, _, _, xc3, by decide, tyX3_ok 0 (by decide), rfl, rfl, Or.inl (xm2 66 rfl)⟩
set_option maxRecDepth 20000 in
theorem lf_X3_19 : xLF RX3 19 3 1 (tyX3 1) true RX3 := ⟨_, _, _, _, xc3, by decide, tyX3_ok 1 (by decide), rfl, rfl, Or.inl (xm2 67 rfl)⟩
set_option maxRecDepth 20000 in
theorem lf_X3_9 : xLF RX3 9 3 2 (tyX3 2) true RX3 := ⟨_, _, _, _, xc3, by decide, tyX3_ok 2 (by decide), rfl, rfl, Or.inl (xm2 68 rfl)⟩
set_option maxRecDepth 20000 in
theorem lf_X5_23 : xLF RX5 23 5 0 (tyX5 0) true RX5 := ⟨_, _, _, _, xc5, by decide, tyX5_ok 0 (by decide), rfl, rfl, Or.inl (xm2 82 rfl)⟩
set_option maxRecDepth 20000 in
theorem lf_X5_11 : xLF RX5 11 5 1 (tyX5 1) true RX5 := ⟨_, _, _, _, xc5, by decide, tyX5_ok 1 (by decide), rfl, rfl, Or.inl (xm2 83 rfl)⟩
set_option maxRecDepth 20000 in
theorem lf_X5_17 : xLF RX5 17 5 2 (tyX5 2) true RX5 := ⟨_, _, _, _, xc5, by decide, tyX5_ok 2 (by decide), rfl, rfl, Or.inl (xm2 86 rfl)⟩
set_option maxRecDepth 20000 in
theorem lf_X5_20 : xLF RX5 20 5 3 (tyX5 3) true RX5 := ⟨_, _, _, _, xc5, by decide, tyX5_ok 3 (by decide), rfl, rfl, Or.inl (xm2 89 rfl)⟩
set_option maxRecDepth 20000 in
theorem lf_X5_39 : xLF RX5 39 5 4 (tyX5 4) false RX5 := ⟨_, _, _, _, xc5, by decide, tyX5_ok 4 (by decide), rfl, rfl, Or.inl (xm2 91 rfl)⟩
set_option maxRecDepth 20000 in
theorem lf_X1_21 : xLF RX1 21 1 0 (tyX1 0) true RX1 := ⟨_, _, _, _, xc1, by decide, tyX1_ok 0 (by decide), rfl, rfl, Or.inl (xm2 110 rfl)⟩
set_option maxRecDepth 20000 in
theorem lf_X1_25 : xLF RX1 25 1 1 (tyX1 1) true RX1 := ⟨_, _, _, _, xc1, by decide, tyX1_ok 1 (by decide), rfl, rfl, Or.inl (xm2 111 rfl)⟩
set_option maxRecDepth 20000 in
theorem lf_X1_29 : xLF RX1 29 1 2 (tyX1 2) true RX1 := ⟨_, _, _, _, xc1, by decide, tyX1_ok 2 (by decide), rfl, rfl, Or.inl (xm2 112 rfl)⟩
set_option maxRecDepth 20000 in
theorem lf_X1_33 : xLF RX1 33 1 3 (tyX1 3) false RX1 := ⟨_, _, _, _, xc1, by decide, tyX1_ok 3 (by decide), rfl, rfl, Or.inl (xm2 113 rfl)⟩
set_option maxRecDepth 20000 in
theorem lf_X1_43 : xLF RX1 43 1 4 (tyX1 4) false RX1 := ⟨_, _, _, _, xc1, by decide, tyX1_ok 4 (by decide), rfl, rfl, Or.inl (xm2 114 rfl)⟩
set_option maxRecDepth 20000 in
theorem lf_X1_9 : xLF RX1 9 1 5 (tyX1 5) true RX1 := ⟨_, _, _, _, xc1, by decide, tyX1_ok 5 (by decide), rfl, rfl, Or.inl (xm2 115 rfl)⟩
set_option maxRecDepth 20000 in
theorem lf_X1_46 : xLF RX1 46 1 6 (tyX1 6) false RX1 := ⟨_, _, _, _, xc1, by decide, tyX1_ok 6 (by decide), rfl, rfl, Or.inl (xm2 116 rfl)⟩
set_option maxRecDepth 20000 in
theorem lf_X1_15 : xLF RX1 15 1 7 (tyX1 7) true RX1 := ⟨_, _, _, _, xc1, by decide, tyX1_ok 7 (by decide), rfl, rfl, Or.inl (xm2 117 rfl)⟩
set_option maxRecDepth 20000 in
theorem lf_X1_18 : xLF RX1 18 1 8 (tyX1 8) true RX1 := ⟨_, _, _, _, xc1, by decide, tyX1_ok 8 (by decide), rfl, rfl, Or.inl (xm2 118 rfl)⟩
set_option maxRecDepth 20000 in
theorem lf_X1_81 : xLF RX1 81 1 9 (tyX1 9) false RX1 := ⟨_, _, _, _, xc1, by decide, tyX1_ok 9 (by decide), rfl, rfl, Or.inl (xm2 120 rfl)⟩
set_option maxRecDepth 20000 in
theorem lf_X11_9 : xLF RX11 9 11 0 (tyX11 0) true RX11 := ⟨_, _, _, _, xc11, by decide, tyX11_ok 0 (by decide), rfl, rfl, Or.inl (xm2 143 rfl)⟩
set_option maxRecDepth 20000 in
theorem lf_X11_69 : xLF RX11 69 11 1 (tyX11 1) false RX11 := ⟨_, _, _, _, xc11, by decide, tyX11_ok 1 (by decide), rfl, rfl, Or.inl (xm2 144 rfl)⟩
set_option maxRecDepth 20000 in
theorem lf_X11_16 : xLF RX11 16 11 2 (tyX11 2) true RX11 := ⟨_, _, _, _, xc11, by decide, tyX11_ok 2 (by decide), rfl, rfl, Or.inl (xm2 145 rfl)⟩
set_option maxRecDepth 20000 in
theorem lf_X11_25 : xLF RX11 25 11 3 (tyX11 3) true RX11 := ⟨_, _, _, _, xc11, by decide, tyX11_ok 3 (by decide), rfl, rfl, Or.inl (xm2 146 rfl)⟩
set_option maxRecDepth 20000 in
theorem lf_X11_32 : xLF RX11 32 11 4 (tyX11 4) true RX11 := ⟨_, _, _, _, xc11, by decide, tyX11_ok 4 (by decide), rfl, rfl, Or.inl (xm2 147 rfl)⟩
set_option maxRecDepth 20000 in
theorem lf_X11_41 : xLF RX11 41 11 5 (tyX11 5) true RX11 := ⟨_, _, _, _, xc11, by decide, tyX11_ok 5 (by decide), rfl, rfl, Or.inl (xm2 148 rfl)⟩
set_option maxRecDepth 20000 in
theorem lf_X11_50 : xLF RX11 50 11 6 (tyX11 6) true RX11 := ⟨_, _, _, _, xc11, by decide, tyX11_ok 6 (by decide), rfl, rfl, Or.inl (xm2 149 rfl)⟩
set_option maxRecDepth 20000 in
theorem lf_X11_85 : xLF RX11 85 11 7 (tyX11 7) false RX11 := ⟨_, _, _, _, xc11, by decide, tyX11_ok 7 (by decide), rfl, rfl, Or.inl (xm2 150 rfl)⟩
set_option maxRecDepth 20000 in
theorem lf_X11_54 : xLF RX11 54 11 8 (tyX11 8) true RX11 := ⟨_, _, _, _, xc11, by decide, tyX11_ok 8 (by decide), rfl, rfl, Or.inl (xm2 151 rfl)⟩
set_option maxRecDepth 20000 in
theorem lf_X11_62 : xLF RX11 62 11 9 (tyX11 9) true RX11 := ⟨_, _, _, _, xc11, by decide, tyX11_ok 9 (by decide), rfl, rfl, Or.inl (xm2 152 rfl)⟩
set_option maxRecDepth 20000 in
theorem lf_X11_66 : xLF RX11 66 11 10 (tyX11 10) true RX11 := ⟨_, _, _, _, xc11, by decide, tyX11_ok 10 (by decide), rfl, rfl, Or.inl (xm2 153 rfl)⟩
set_option maxRecDepth 20000 in
theorem lf_X11_190 : xLF RX11 190 11 11 (tyX11 11) false RX11 := ⟨_, _, _, _, xc11, by decide, tyX11_ok 11 (by decide), rfl, rfl, Or.inl (xm2 154 rfl)⟩
set_option maxRecDepth 20000 in
theorem lf_X11_89 : xLF RX11 89 11 12 (tyX11 12) false RX11 := ⟨_, _, _, _, xc11, by decide, tyX11_ok 12 (by decide), rfl, rfl, Or.inl (xm2 155 rfl)⟩
set_option maxRecDepth 20000 in
theorem lf_X14_84 : xLF RX14 84 14 0 (tyX14 0) false RX14 := ⟨_, _, _, _, xc14, by decide, tyX14_ok 0 (by decide), rfl, rfl, Or.inl (xm4 222 rfl)⟩
set_option maxRecDepth 20000 in
theorem lf_X14_87 : xLF RX14 87 14 1 (tyX14 1) false RX14 := ⟨_, _, _, _, xc14, by decide, tyX14_ok 1 (by decide), rfl, rfl, Or.inl (xm4 223 rfl)⟩
set_option maxRecDepth 20000 in
theorem lf_X14_9 : xLF RX14 9 14 2 (tyX14 2) false RX14 := ⟨_, _, _, _, xc14, by decide, tyX14_ok 2 (by decide), rfl, rfl, Or.inl (xm4 224 rfl)⟩
set_option maxRecDepth 20000 in
theorem lf_X14_217 : xLF RX14 217 14 3 (tyX14 3) false RX14 := ⟨_, _, _, _, xc14, by decide, tyX14_ok 3 (by decide), rfl, rfl, Or.inl (xm4 225 rfl)⟩
set_option maxRecDepth 20000 in
theorem lf_X14_96 : xLF RX14 96 14 4 (tyX14 4) false RX14 := ⟨_, _, _, _, xc14, by decide, tyX14_ok 4 (by decide), rfl, rfl, Or.inl (xm4 226 rfl)⟩
set_option maxRecDepth 20000 in
theorem lf_X14_90 : xLF RX14 90 14 5 (tyX14 5) false RX14 := ⟨_, _, _, _, xc14, by decide, tyX14_ok 5 (by decide), rfl, rfl, Or.inl (xm4 227 rfl)⟩
set_option maxRecDepth 20000 in
theorem lf_X14_93 : xLF RX14 93 14 6 (tyX14 6) false RX14 := ⟨_, _, _, _, xc14, by decide, tyX14_ok 6 (by decide), rfl, rfl, Or.inl (xm4 228 rfl)⟩
set_option maxRecDepth 20000 in
theorem lf_X14_13 : xLF RX14 13 14 7 (tyX14 7) true RX14 := ⟨_, _, _, _, xc14, by decide, tyX14_ok 7 (by decide), rfl, rfl, Or.inl (xm4 229 rfl)⟩
set_option maxRecDepth 20000 in
theorem lf_X14_17 : xLF RX14 17 14 8 (tyX14 8) true RX14 := ⟨_, _, _, _, xc14, by decide, tyX14_ok 8 (by decide), rfl, rfl, Or.inl (xm4 230 rfl)⟩
set_option maxRecDepth 20000 in
theorem lf_X14_20 : xLF RX14 20 14 9 (tyX14 9) true RX14 := ⟨_, _, _, _, xc14, by decide, tyX14_ok 9 (by decide), rfl, rfl, Or.inl (xm4 231 rfl)⟩
set_option maxRecDepth 20000 in
theorem lf_X14_24 : xLF RX14 24 14 10 (tyX14 10) true RX14 := ⟨_, _, _, _, xc14, by decide, tyX14_ok 10 (by decide), rfl, rfl, Or.inl (xm4 232 rfl)⟩
set_option maxRecDepth 20000 in
theorem lf_X14_27 : xLF RX14 27 14 11 (tyX14 11) true RX14 := ⟨_, _, _, _, xc14, by decide, tyX14_ok 11 (by decide), rfl, rfl, Or.inl (xm4 233 rfl)⟩
set_option maxRecDepth 20000 in
theorem lf_X14_30 : xLF RX14 30 14 12 (tyX14 12) true RX14 := ⟨_, _, _, _, xc14, by decide, tyX14_ok 12 (by decide), rfl, rfl, Or.inl (xm4 234 rfl)⟩
set_option maxRecDepth 20000 in
theorem lf_X14_33 : xLF RX14 33 14 13 (tyX14 13) true RX14 := ⟨_, _, _, _, xc14, by decide, tyX14_ok 13 (by decide), rfl, rfl, Or.inl (xm4 235 rfl)⟩
set_option maxRecDepth 20000 in
theorem lf_X14_37 : xLF RX14 37 14 14 (tyX14 14) true RX14 := ⟨_, _, _, _, xc14, by decide, tyX14_ok 14 (by decide), rfl, rfl, Or.inl (xm4 236 rfl)⟩
set_option maxRecDepth 20000 in
theorem lf_X14_42 : xLF RX14 42 14 15 (tyX14 15) true RX14 := ⟨_, _, _, _, xc14, by decide, tyX14_ok 15 (by decide), rfl, rfl, Or.inl (xm4 237 rfl)⟩
set_option maxRecDepth 20000 in
theorem lf_X14_49 : xLF RX14 49 14 16 (tyX14 16) true RX14 := ⟨_, _, _, _, xc14, by decide, tyX14_ok 16 (by decide), rfl, rfl, Or.inl (xm4 238 rfl)⟩
set_option maxRecDepth 20000 in
theorem lf_X14_53 : xLF RX14 53 14 17 (tyX14 17) true RX14 := ⟨_, _, _, _, xc14, by decide, tyX14_ok 17 (by decide), rfl, rfl, Or.inl (xm4 239 rfl)⟩
set_option maxRecDepth 20000 in
theorem lf_X14_211 : xLF RX14 211 14 18 (tyX14 18) false RX14 := ⟨_, _, _, _, xc14, by decide, tyX14_ok 18 (by decide), rfl, rfl, Or.inl (xm5 0 rfl)⟩
set_option maxRecDepth 20000 in
theorem lf_X14_104 : xLF RX14 104 14 19 (tyX14 19) false RX14 := ⟨_, _, _, _, xc14, by decide, tyX14_ok 19 (by decide), rfl, rfl, Or.inl (xm5 1 rfl)⟩
set_option maxRecDepth 20000 in
theorem lf_X14_107 : xLF RX14 107 14 20 (tyX14 20) false RX14 := ⟨_, _, _, _, xc14, by decide, tyX14_ok 20 (by decide), rfl, rfl, Or.inl (xm5 2 rfl)⟩
set_option maxRecDepth 20000 in
theorem lf_X14_115 : xLF RX14 115 14 21 (tyX14 21) false RX14 := ⟨_, _, _, _, xc14, by decide, tyX14_ok 21 (by decide), rfl, rfl, Or.inl (xm5 3 rfl)⟩
set_option maxRecDepth 20000 in
theorem lf_X14_114 : xLF RX14 114 14 22 (tyX14 22) false RX14 := ⟨_, _, _, _, xc14, by decide, tyX14_ok 22 (by decide), rfl, rfl, Or.inl (xm5 4 rfl)⟩
set_option maxRecDepth 20000 in
theorem lf_X14_118 : xLF RX14 118 14 23 (tyX14 23) false RX14 := ⟨_, _, _, _, xc14, by decide, tyX14_ok 23 (by decide), rfl, rfl, Or.inl (xm5 5 rfl)⟩
set_option maxRecDepth 20000 in
theorem lf_X14_131 : xLF RX14 131 14 24 (tyX14 24) false RX14 := ⟨_, _, _, _, xc14, by decide, tyX14_ok 24 (by decide), rfl, rfl, Or.inl (xm5 6 rfl)⟩
set_option maxRecDepth 20000 in
theorem lf_X14_125 : xLF RX14 125 14 25 (tyX14 25) false RX14 := ⟨_, _, _, _, xc14, by decide, tyX14_ok 25 (by decide), rfl, rfl, Or.inl (xm5 7 rfl)⟩
set_option maxRecDepth 20000 in
theorem lf_X14_57 : xLF RX14 57 14 26 (tyX14 26) true RX14 := ⟨_, _, _, _, xc14, by decide, tyX14_ok 26 (by decide), rfl, rfl, Or.inl (xm5 8 rfl)⟩
set_option maxRecDepth 20000 in
theorem lf_X14_60 : xLF RX14 60 14 27 (tyX14 27) true RX14 := ⟨_, _, _, _, xc14, by decide, tyX14_ok 27 (by decide), rfl, rfl, Or.inl (xm5 9 rfl)⟩
set_option maxRecDepth 20000 in
theorem lf_X14_162 : xLF RX14 162 14 28 (tyX14 28) false RX14 := ⟨_, _, _, _, xc14, by decide, tyX14_ok 28 (by decide), rfl, rfl, Or.inl (xm5 10 rfl)⟩
set_option maxRecDepth 20000 in
theorem lf_X14_159 : xLF RX14 159 14 29 (tyX14 29) false RX14 := ⟨_, _, _, _, xc14, by decide, tyX14_ok 29 (by decide), rfl, rfl, Or.inl (xm5 11 rfl)⟩
set_option maxRecDepth 20000 in
theorem lf_X14_220 : xLF RX14 220 14 30 (tyX14 30) false RX14 := ⟨_, _, _, _, xc14, by decide, tyX14_ok 30 (by decide), rfl, rfl, Or.inl (xm5 12 rfl)⟩
set_option maxRecDepth 20000 in
theorem lf_X14_146 : xLF RX14 146 14 31 (tyX14 31) false RX14 := ⟨_, _, _, _, xc14, by decide, tyX14_ok 31 (by decide), rfl, rfl, Or.inl (xm5 13 rfl)⟩
set_option maxRecDepth 20000 in
theorem lf_X14_63 : xLF RX14 63 14 32 (tyX14 32) true RX14 := ⟨_, _, _, _, xc14, by decide, tyX14_ok 32 (by decide), rfl, rfl, Or.inl (xm5 14 rfl)⟩
set_option maxRecDepth 20000 in
theorem lf_X14_66 : xLF RX14 66 14 33 (tyX14 33) true RX14 := ⟨_, _, _, _, xc14, by decide, tyX14_ok 33 (by decide), rfl, rfl, Or.inl (xm5 15 rfl)⟩
set_option maxRecDepth 20000 in
theorem lf_X14_254 : xLF RX14 254 14 34 (tyX14 34) false RX14 := ⟨_, _, _, _, xc14, by decide, tyX14_ok 34 (by decide), rfl, rfl, Or.inl (xm5 16 rfl)⟩
set_option maxRecDepth 20000 in
theorem lf_X14_69 : xLF RX14 69 14 35 (tyX14 35) true RX14 := ⟨_, _, _, _, xc14, by decide, tyX14_ok 35 (by decide), rfl, rfl, Or.inl (xm5 17 rfl)⟩
set_option maxRecDepth 20000 in
theorem lf_X14_303 : xLF RX14 303 14 36 (tyX14 36) false RX14 := ⟨_, _, _, _, xc14, by decide, tyX14_ok 36 (by decide), rfl, rfl, Or.inl (xm5 18 rfl)⟩
set_option maxRecDepth 20000 in
theorem lf_X14_72 : xLF RX14 72 14 37 (tyX14 37) true RX14 := ⟨_, _, _, _, xc14, by decide, tyX14_ok 37 (by decide), rfl, rfl, Or.inl (xm5 19 rfl)⟩
set_option maxRecDepth 20000 in
theorem lf_X14_75 : xLF RX14 75 14 38 (tyX14 38) true RX14 := ⟨_, _, _, _, xc14, by decide, tyX14_ok 38 (by decide), rfl, rfl, Or.inl (xm5 20 rfl)⟩
set_option maxRecDepth 20000 in
theorem lf_X14_78 : xLF RX14 78 14 39 (tyX14 39) true RX14 := ⟨_, _, _, _, xc14, by decide, tyX14_ok 39 (by decide), rfl, rfl, Or.inl (xm5 21 rfl)⟩
set_option maxRecDepth 20000 in
theorem lf_X14_81 : xLF RX14 81 14 40 (tyX14 40) true RX14 := ⟨_, _, _, _, xc14, by decide, tyX14_ok 40 (by decide), rfl, rfl, Or.inl (xm5 22 rfl)⟩
set_option maxRecDepth 20000 in
theorem lf_X14_315 : xLF RX14 315 14 41 (tyX14 41) false RX14 := ⟨_, _, _, _, xc14, by decide, tyX14_ok 41 (by decide), rfl, rfl, Or.inl (xm5 23 rfl)⟩
set_option maxRecDepth 20000 in
theorem lf_X14_322 : xLF RX14 322 14 42 (tyX14 42) false RX14 := ⟨_, _, _, _, xc14, by decide, tyX14_ok 42 (by decide), rfl, rfl, Or.inl (xm5 24 rfl)⟩
set_option maxRecDepth 20000 in
theorem lf_X12_27 : xLF RX12 27 12 1 (tyX12 1) false RX12 := ⟨_, _, _, _, xc12, by decide, tyX12_ok 1 (by decide), rfl, rfl, Or.inl (xm5 150 rfl)⟩
set_option maxRecDepth 20000 in
theorem lf_X12_9 : xLF RX12 9 12 3 (tyX12 3) true RX12 := ⟨_, _, _, _, xc12, by decide, tyX12_ok 3 (by decide), rfl, rfl, Or.inl (xm5 153 rfl)⟩
set_option maxRecDepth 20000 in
theorem lf_X12_15 : xLF RX12 15 12 4 (tyX12 4) true RX12 := ⟨_, _, _, _, xc12, by decide, tyX12_ok 4 (by decide), rfl, rfl, Or.inl (xm5 155 rfl)⟩
set_option maxRecDepth 20000 in
theorem lf_X12_18 : xLF RX12 18 12 5 (tyX12 5) true RX12 := ⟨_, _, _, _, xc12, by decide, tyX12_ok 5 (by decide), rfl, rfl, Or.inl (xm5 157 rfl)⟩
set_option maxRecDepth 20000 in
theorem lf_X12_21 : xLF RX12 21 12 6 (tyX12 6) true RX12 := ⟨_, _, _, _, xc12, by decide, tyX12_ok 6 (by decide), rfl, rfl, Or.inl (xm5 159 rfl)⟩
set_option maxRecDepth 20000 in
theorem lf_X12_24 : xLF RX12 24 12 7 (tyX12 7) true RX12 := ⟨_, _, _, _, xc12, by decide, tyX12_ok 7 (by decide), rfl, rfl, Or.inl (xm5 161 rfl)⟩
set_option maxRecDepth 20000 in
theorem lf_X7_32 : xLF RX7 32 6 1 (tyX6 1) false RX6 := ⟨_, _, _, _, xc6, by decide, tyX6_ok 1 (by decide), rfl, rfl, Or.inr ⟨"RuleCourt", xm1 46 rfl⟩⟩
set_option maxRecDepth 20000 in
theorem lf_X0_50 : xLF RX0 50 6 1 (tyX6 1) false RX6 := ⟨_, _, _, _, xc6, by decide, tyX6_ok 1 (by decide), rfl, rfl, Or.inr ⟨"RuleCourt", xm1 47 rfl⟩⟩
set_option maxRecDepth 20000 in
theorem lf_X11_114 : xLF RX11 114 6 1 (tyX6 1) false RX6 := ⟨_, _, _, _, xc6, by decide, tyX6_ok 1 (by decide), rfl, rfl, Or.inr ⟨"RuleCourt", xm1 48 rfl⟩⟩
set_option maxRecDepth 20000 in
theorem lf_X2_123 : xLF RX2 123 6 1 (tyX6 1) false RX6 := ⟨_, _, _, _, xc6, by decide, tyX6_ok 1 (by decide), rfl, rfl, Or.inr ⟨"RuleCourt", xm1 49 rfl⟩⟩
set_option maxRecDepth 20000 in
theorem lf_X3_64 : xLF RX3 64 4 0 (tyX4 0) true RX4 := ⟨_, _, _, _, xc4, by decide, tyX4_ok 0 (by decide), rfl, rfl, Or.inr ⟨"RuleCourt", xm1 64 rfl⟩⟩
set_option maxRecDepth 20000 in
theorem lf_X0_63 : xLF RX0 63 4 0 (tyX4 0) true RX4 := ⟨_, _, _, _, xc4, by decide, tyX4_ok 0 (by decide), rfl, rfl, Or.inr ⟨"RuleCourt", xm1 65 rfl⟩⟩
set_option maxRecDepth 20000 in
theorem lf_X11_135 : xLF RX11 135 4 0 (tyX4 0) true RX4 := ⟨_, _, _, _, xc4, by decide, tyX4_ok 0 (by decide), rfl, rfl, Or.inr ⟨"RuleCourt", xm1 66 rfl⟩⟩
set_option maxRecDepth 20000 in
theorem lf_X4_44 : xLF RX4 44 9 0 (tyX9 0) false RX9 := ⟨_, _, _, _, xc9, by decide, tyX9_ok 0 (by decide), rfl, rfl, Or.inr ⟨"RuleCourt", xm1 84 rfl⟩⟩
set_option maxRecDepth 20000 in
theorem lf_X3_93 : xLF RX3 93 9 0 (tyX9 0) false RX9 := ⟨_, _, _, _, xc9, by decide, tyX9_ok 0 (by decide), rfl, rfl, Or.inr ⟨"RuleCourt", xm1 85 rfl⟩⟩
set_option maxRecDepth 20000 in
theorem lf_X8_49 : xLF RX8 49 9 0 (tyX9 0) false RX9 := ⟨_, _, _, _, xc9, by decide, tyX9_ok 0 (by decide), rfl, rfl, Or.inr ⟨"RuleCourt", xm1 86 rfl⟩⟩
set_option maxRecDepth 20000 in
theorem lf_X0_90 : xLF RX0 90 9 0 (tyX9 0) false RX9 := ⟨_, _, _, _, xc9, by decide, tyX9_ok 0 (by decide), rfl, rfl, Or.inr ⟨"RuleCourt", xm1 87 rfl⟩⟩
set_option maxRecDepth 20000 in
theorem lf_X2_134 : xLF RX2 134 9 0 (tyX9 0) false RX9 := ⟨_, _, _, _, xc9, by decide, tyX9_ok 0 (by decide), rfl, rfl, Or.inr ⟨"RuleCourt", xm1 88 rfl⟩⟩
set_option maxRecDepth 20000 in
theorem lf_X11_197 : xLF RX11 197 9 0 (tyX9 0) false RX9 := ⟨_, _, _, _, xc9, by decide, tyX9_ok 0 (by decide), rfl, rfl, Or.inr ⟨"RuleCourt", xm1 89 rfl⟩⟩
set_option maxRecDepth 20000 in
theorem lf_X4_31 : xLF RX4 31 9 1 (tyX9 1) false RX9 := ⟨_, _, _, _, xc9, by decide, tyX9_ok 1 (by decide), rfl, rfl, Or.inr ⟨"RuleCourt", xm1 91 rfl⟩⟩
set_option maxRecDepth 20000 in
theorem lf_X3_55 : xLF RX3 55 9 1 (tyX9 1) false RX9 := ⟨_, _, _, _, xc9, by decide, tyX9_ok 1 (by decide), rfl, rfl, Or.inr ⟨"RuleCourt", xm1 92 rfl⟩⟩
set_option maxRecDepth 20000 in
theorem lf_X2_44 : xLF RX2 44 9 1 (tyX9 1) false RX9 := ⟨_, _, _, _, xc9, by decide, tyX9_ok 1 (by decide), rfl, rfl, Or.inr ⟨"RuleCourt", xm1 93 rfl⟩⟩
set_option maxRecDepth 20000 in
theorem lf_X7_154 : xLF RX7 154 9 1 (tyX9 1) false RX9 := ⟨_, _, _, _, xc9, by decide, tyX9_ok 1 (by decide), rfl, rfl, Or.inr ⟨"RuleCourt", xm1 94 rfl⟩⟩
set_option maxRecDepth 20000 in
theorem lf_X0_76 : xLF RX0 76 9 1 (tyX9 1) false RX9 := ⟨_, _, _, _, xc9, by decide, tyX9_ok 1 (by decide), rfl, rfl, Or.inr ⟨"RuleCourt", xm1 95 rfl⟩⟩
set_option maxRecDepth 20000 in
theorem lf_X11_210 : xLF RX11 210 9 1 (tyX9 1) false RX9 := ⟨_, _, _, _, xc9, by decide, tyX9_ok 1 (by decide), rfl, rfl, Or.inr ⟨"RuleCourt", xm1 96 rfl⟩⟩
set_option maxRecDepth 20000 in
theorem lf_X8_33 : xLF RX8 33 9 2 (tyX9 2) false RX9 := ⟨_, _, _, _, xc9, by decide, tyX9_ok 2 (by decide), rfl, rfl, Or.inr ⟨"RuleCourt", xm1 98 rfl⟩⟩
set_option maxRecDepth 20000 in
theorem lf_X7_136 : xLF RX7 136 9 2 (tyX9 2) false RX9 := ⟨_, _, _, _, xc9, by decide, tyX9_ok 2 (by decide), rfl, rfl, Or.inr ⟨"RuleCourt", xm1 99 rfl⟩⟩
set_option maxRecDepth 20000 in
theorem lf_X2_82 : xLF RX2 82 9 2 (tyX9 2) false RX9 := ⟨_, _, _, _, xc9, by decide, tyX9_ok 2 (by decide), rfl, rfl, Or.inr ⟨"RuleCourt", xm1 100 rfl⟩⟩
set_option maxRecDepth 20000 in
theorem lf_X11_243 : xLF RX11 243 9 2 (tyX9 2) false RX9 := ⟨_, _, _, _, xc9, by decide, tyX9_ok 2 (by decide), rfl, rfl, Or.inr ⟨"RuleCourt", xm1 101 rfl⟩⟩
set_option maxRecDepth 20000 in
theorem lf_X8_43 : xLF RX8 43 9 3 (tyX9 3) false RX9 := ⟨_, _, _, _, xc9, by decide, tyX9_ok 3 (by decide), rfl, rfl, Or.inr ⟨"RuleCourt", xm1 103 rfl⟩⟩
set_option maxRecDepth 20000 in
theorem lf_X7_142 : xLF RX7 142 9 3 (tyX9 3) false RX9 := ⟨_, _, _, _, xc9, by decide, tyX9_ok 3 (by decide), rfl, rfl, Or.inr ⟨"RuleCourt", xm1 104 rfl⟩⟩
set_option maxRecDepth 20000 in
theorem lf_X2_89 : xLF RX2 89 9 3 (tyX9 3) false RX9 := ⟨_, _, _, _, xc9, by decide, tyX9_ok 3 (by decide), rfl, rfl, Or.inr ⟨"RuleCourt", xm1 105 rfl⟩⟩
set_option maxRecDepth 20000 in
theorem lf_X11_246 : xLF RX11 246 9 3 (tyX9 3) false RX9 := ⟨_, _, _, _, xc9, by decide, tyX9_ok 3 (by decide), rfl, rfl, Or.inr ⟨"RuleCourt", xm1 106 rfl⟩⟩
set_option maxRecDepth 20000 in
theorem lf_X7_99 : xLF RX7 99 9 4 (tyX9 4) false RX9 := ⟨_, _, _, _, xc9, by decide, tyX9_ok 4 (by decide), rfl, rfl, Or.inr ⟨"RuleCourt", xm1 107 rfl⟩⟩
set_option maxRecDepth 20000 in
theorem lf_X8_40 : xLF RX8 40 9 5 (tyX9 5) false RX9 := ⟨_, _, _, _, xc9, by decide, tyX9_ok 5 (by decide), rfl, rfl, Or.inr ⟨"RuleCourt", xm1 109 rfl⟩⟩
set_option maxRecDepth 20000 in
theorem lf_X7_139 : xLF RX7 139 9 5 (tyX9 5) false RX9 := ⟨_, _, _, _, xc9, by decide, tyX9_ok 5 (by decide), rfl, rfl, Or.inr ⟨"RuleCourt", xm1 110 rfl⟩⟩
set_option maxRecDepth 20000 in
theorem lf_X8_46 : xLF RX8 46 9 6 (tyX9 6) false RX9 := ⟨_, _, _, _, xc9, by decide, tyX9_ok 6 (by decide), rfl, rfl, Or.inr ⟨"RuleCourt", xm1 112 rfl⟩⟩
set_option maxRecDepth 20000 in
theorem lf_X7_145 : xLF RX7 145 9 6 (tyX9 6) false RX9 := ⟨_, _, _, _, xc9, by decide, tyX9_ok 6 (by decide), rfl, rfl, Or.inr ⟨"RuleCourt", xm1 113 rfl⟩⟩
set_option maxRecDepth 20000 in
theorem lf_X4_25 : xLF RX4 25 8 0 (tyX8 0) true RX8 := ⟨_, _, _, _, xc8, by decide, tyX8_ok 0 (by decide), rfl, rfl, Or.inr ⟨"RuleCourt", xm1 131 rfl⟩⟩
set_option maxRecDepth 20000 in
theorem lf_X3_49 : xLF RX3 49 8 0 (tyX8 0) true RX8 := ⟨_, _, _, _, xc8, by decide, tyX8_ok 0 (by decide), rfl, rfl, Or.inr ⟨"RuleCourt", xm1 132 rfl⟩⟩
set_option maxRecDepth 20000 in
theorem lf_X7_93 : xLF RX7 93 8 0 (tyX8 0) true RX8 := ⟨_, _, _, _, xc8, by decide, tyX8_ok 0 (by decide), rfl, rfl, Or.inr ⟨"RuleCourt", xm1 133 rfl⟩⟩
set_option maxRecDepth 20000 in
theorem lf_X2_38 : xLF RX2 38 8 0 (tyX8 0) true RX8 := ⟨_, _, _, _, xc8, by decide, tyX8_ok 0 (by decide), rfl, rfl, Or.inr ⟨"RuleCourt", xm1 134 rfl⟩⟩
set_option maxRecDepth 20000 in
theorem lf_X0_72 : xLF RX0 72 8 0 (tyX8 0) true RX8 := ⟨_, _, _, _, xc8, by decide, tyX8_ok 0 (by decide), rfl, rfl, Or.inr ⟨"RuleCourt", xm1 135 rfl⟩⟩
set_option maxRecDepth 20000 in
theorem lf_X11_206 : xLF RX11 206 8 0 (tyX8 0) true RX8 := ⟨_, _, _, _, xc8, by decide, tyX8_ok 0 (by decide), rfl, rfl, Or.inr ⟨"RuleCourt", xm1 136 rfl⟩⟩
set_option maxRecDepth 20000 in
theorem lf_X4_40 : xLF RX4 40 8 1 (tyX8 1) true RX8 := ⟨_, _, _, _, xc8, by decide, tyX8_ok 1 (by decide), rfl, rfl, Or.inr ⟨"RuleCourt", xm1 138 rfl⟩⟩
set_option maxRecDepth 20000 in
theorem lf_X3_89 : xLF RX3 89 8 1 (tyX8 1) true RX8 := ⟨_, _, _, _, xc8, by decide, tyX8_ok 1 (by decide), rfl, rfl, Or.inr ⟨"RuleCourt", xm1 139 rfl⟩⟩
set_option maxRecDepth 20000 in
theorem lf_X7_126 : xLF RX7 126 8 1 (tyX8 1) true RX8 := ⟨_, _, _, _, xc8, by decide, tyX8_ok 1 (by decide), rfl, rfl, Or.inr ⟨"RuleCourt", xm1 140 rfl⟩⟩
set_option maxRecDepth 20000 in
theorem lf_X0_86 : xLF RX0 86 8 1 (tyX8 1) true RX8 := ⟨_, _, _, _, xc8, by decide, tyX8_ok 1 (by decide), rfl, rfl, Or.inr ⟨"RuleCourt", xm1 141 rfl⟩⟩
set_option maxRecDepth 20000 in
theorem lf_X2_105 : xLF RX2 105 8 1 (tyX8 1) true RX8 := ⟨_, _, _, _, xc8, by decide, tyX8_ok 1 (by decide), rfl, rfl, Or.inr ⟨"RuleCourt", xm1 142 rfl⟩⟩
set_option maxRecDepth 20000 in
theorem lf_X11_193 : xLF RX11 193 8 1 (tyX8 1) true RX8 := ⟨_, _, _, _, xc8, by decide, tyX8_ok 1 (by decide), rfl, rfl, Or.inr ⟨"RuleCourt", xm1 143 rfl⟩⟩
set_option maxRecDepth 20000 in
theorem lf_X4_37 : xLF RX4 37 8 2 (tyX8 2) false RX8 := ⟨_, _, _, _, xc8, by decide, tyX8_ok 2 (by decide), rfl, rfl, Or.inr ⟨"RuleCourt", xm1 145 rfl⟩⟩
set_option maxRecDepth 20000 in
theorem lf_X3_86 : xLF RX3 86 8 2 (tyX8 2) false RX8 := ⟨_, _, _, _, xc8, by decide, tyX8_ok 2 (by decide), rfl, rfl, Or.inr ⟨"RuleCourt", xm1 146 rfl⟩⟩
set_option maxRecDepth 20000 in
theorem lf_X7_125 : xLF RX7 125 8 2 (tyX8 2) false RX8 := ⟨_, _, _, _, xc8, by decide, tyX8_ok 2 (by decide), rfl, rfl, Or.inr ⟨"RuleCourt", xm1 147 rfl⟩⟩
set_option maxRecDepth 20000 in
theorem lf_X0_85 : xLF RX0 85 8 2 (tyX8 2) false RX8 := ⟨_, _, _, _, xc8, by decide, tyX8_ok 2 (by decide), rfl, rfl, Or.inr ⟨"RuleCourt", xm1 148 rfl⟩⟩
set_option maxRecDepth 20000 in
theorem lf_X2_98 : xLF RX2 98 8 2 (tyX8 2) false RX8 := ⟨_, _, _, _, xc8, by decide, tyX8_ok 2 (by decide), rfl, rfl, Or.inr ⟨"RuleCourt", xm1 149 rfl⟩⟩
set_option maxRecDepth 20000 in
theorem lf_X11_187 : xLF RX11 187 8 2 (tyX8 2) false RX8 := ⟨_, _, _, _, xc8, by decide, tyX8_ok 2 (by decide), rfl, rfl, Or.inr ⟨"RuleCourt", xm1 150 rfl⟩⟩
set_option maxRecDepth 20000 in
theorem lf_X11_217 : xLF RX11 217 8 4 (tyX8 4) false RX8 := ⟨_, _, _, _, xc8, by decide, tyX8_ok 4 (by decide), rfl, rfl, Or.inr ⟨"RuleCourt", xm1 153 rfl⟩⟩
set_option maxRecDepth 20000 in
theorem lf_X7_26 : xLF RX7 26 0 0 (tyX0 0) true RX0 := ⟨_, _, _, _, xc0, by decide, tyX0_ok 0 (by decide), rfl, rfl, Or.inr ⟨"RuleCourt", xm1 166 rfl⟩⟩
set_option maxRecDepth 20000 in
theorem lf_X11_101 : xLF RX11 101 0 0 (tyX0 0) true RX0 := ⟨_, _, _, _, xc0, by decide, tyX0_ok 0 (by decide), rfl, rfl, Or.inr ⟨"RuleCourt", xm1 167 rfl⟩⟩
set_option maxRecDepth 20000 in
theorem lf_X7_38 : xLF RX7 38 0 1 (tyX0 1) true RX0 := ⟨_, _, _, _, xc0, by decide, tyX0_ok 1 (by decide), rfl, rfl, Or.inr ⟨"RuleCourt", xm1 169 rfl⟩⟩
set_option maxRecDepth 20000 in
theorem lf_X11_111 : xLF RX11 111 0 1 (tyX0 1) true RX0 := ⟨_, _, _, _, xc0, by decide, tyX0_ok 1 (by decide), rfl, rfl, Or.inr ⟨"RuleCourt", xm1 170 rfl⟩⟩
set_option maxRecDepth 20000 in
theorem lf_X2_117 : xLF RX2 117 0 1 (tyX0 1) true RX0 := ⟨_, _, _, _, xc0, by decide, tyX0_ok 1 (by decide), rfl, rfl, Or.inr ⟨"RuleCourt", xm1 171 rfl⟩⟩
set_option maxRecDepth 20000 in
theorem lf_X11_117 : xLF RX11 117 0 2 (tyX0 2) true RX0 := ⟨_, _, _, _, xc0, by decide, tyX0_ok 2 (by decide), rfl, rfl, Or.inr ⟨"RuleCourt", xm1 173 rfl⟩⟩
set_option maxRecDepth 20000 in
theorem lf_X7_185 : xLF RX7 185 0 2 (tyX0 2) true RX0 := ⟨_, _, _, _, xc0, by decide, tyX0_ok 2 (by decide), rfl, rfl, Or.inr ⟨"RuleCourt", xm1 174 rfl⟩⟩
set_option maxRecDepth 20000 in
theorem lf_X3_60 : xLF RX3 60 0 3 (tyX0 3) true RX0 := ⟨_, _, _, _, xc0, by decide, tyX0_ok 3 (by decide), rfl, rfl, Or.inr ⟨"RuleCourt", xm1 176 rfl⟩⟩
set_option maxRecDepth 20000 in
theorem lf_X7_83 : xLF RX7 83 0 3 (tyX0 3) true RX0 := ⟨_, _, _, _, xc0, by decide, tyX0_ok 3 (by decide), rfl, rfl, Or.inr ⟨"RuleCourt", xm1 177 rfl⟩⟩
set_option maxRecDepth 20000 in
theorem lf_X11_131 : xLF RX11 131 0 3 (tyX0 3) true RX0 := ⟨_, _, _, _, xc0, by decide, tyX0_ok 3 (by decide), rfl, rfl, Or.inr ⟨"RuleCourt", xm1 178 rfl⟩⟩
set_option maxRecDepth 20000 in
theorem lf_X3_45 : xLF RX3 45 0 4 (tyX0 4) true RX0 := ⟨_, _, _, _, xc0, by decide, tyX0_ok 4 (by decide), rfl, rfl, Or.inr ⟨"RuleCourt", xm1 180 rfl⟩⟩
set_option maxRecDepth 20000 in
theorem lf_X7_67 : xLF RX7 67 0 4 (tyX0 4) true RX0 := ⟨_, _, _, _, xc0, by decide, tyX0_ok 4 (by decide), rfl, rfl, Or.inr ⟨"RuleCourt", xm1 181 rfl⟩⟩
set_option maxRecDepth 20000 in
theorem lf_X11_175 : xLF RX11 175 0 4 (tyX0 4) true RX0 := ⟨_, _, _, _, xc0, by decide, tyX0_ok 4 (by decide), rfl, rfl, Or.inr ⟨"RuleCourt", xm1 182 rfl⟩⟩
set_option maxRecDepth 20000 in
theorem lf_X7_41 : xLF RX7 41 0 5 (tyX0 5) false RX0 := ⟨_, _, _, _, xc0, by decide, tyX0_ok 5 (by decide), rfl, rfl, Or.inr ⟨"RuleCourt", xm1 184 rfl⟩⟩
set_option maxRecDepth 20000 in
theorem lf_X3_35 : xLF RX3 35 0 5 (tyX0 5) false RX0 := ⟨_, _, _, _, xc0, by decide, tyX0_ok 5 (by decide), rfl, rfl, Or.inr ⟨"RuleCourt", xm1 185 rfl⟩⟩
set_option maxRecDepth 20000 in
theorem lf_X11_172 : xLF RX11 172 0 5 (tyX0 5) false RX0 := ⟨_, _, _, _, xc0, by decide, tyX0_ok 5 (by decide), rfl, rfl, Or.inr ⟨"RuleCourt", xm1 186 rfl⟩⟩
set_option maxRecDepth 20000 in
theorem lf_X1_53 : xLF RX1 53 0 6 (tyX0 6) true RX0 := ⟨_, _, _, _, xc0, by decide, tyX0_ok 6 (by decide), rfl, rfl, Or.inr ⟨"RuleCourt", xm1 188 rfl⟩⟩
set_option maxRecDepth 20000 in
theorem lf_X11_228 : xLF RX11 228 0 6 (tyX0 6) true RX0 := ⟨_, _, _, _, xc0, by decide, tyX0_ok 6 (by decide), rfl, rfl, Or.inr ⟨"RuleCourt", xm1 189 rfl⟩⟩
set_option maxRecDepth 20000 in
theorem lf_X11_249 : xLF RX11 249 0 7 (tyX0 7) false RX0 := ⟨_, _, _, _, xc0, by decide, tyX0_ok 7 (by decide), rfl, rfl, Or.inr ⟨"RuleCourt", xm1 191 rfl⟩⟩
set_option maxRecDepth 20000 in
theorem lf_X7_197 : xLF RX7 197 10 0 (tyX10 0) true RX10 := ⟨_, _, _, _, xc10, by decide, tyX10_ok 0 (by decide), rfl, rfl, Or.inr ⟨"RuleCourt", xm1 222 rfl⟩⟩
set_option maxRecDepth 20000 in
theorem lf_X7_200 : xLF RX7 200 10 1 (tyX10 1) true RX10 := ⟨_, _, _, _, xc10, by decide, tyX10_ok 1 (by decide), rfl, rfl, Or.inr ⟨"RuleCourt", xm1 224 rfl⟩⟩
set_option maxRecDepth 20000 in
theorem lf_X7_167 : xLF RX7 167 10 2 (tyX10 2) true RX10 := ⟨_, _, _, _, xc10, by decide, tyX10_ok 2 (by decide), rfl, rfl, Or.inr ⟨"RuleCourt", xm1 226 rfl⟩⟩
set_option maxRecDepth 20000 in
theorem lf_X7_196 : xLF RX7 196 10 3 (tyX10 3) false RX10 := ⟨_, _, _, _, xc10, by decide, tyX10_ok 3 (by decide), rfl, rfl, Or.inr ⟨"RuleCourt", xm1 228 rfl⟩⟩
set_option maxRecDepth 20000 in
theorem lf_X11_92 : xLF RX11 92 7 5 (tyX7 5) false RX7 := ⟨_, _, _, _, xc7, by decide, tyX7_ok 5 (by decide), rfl, rfl, Or.inr ⟨"RuleCourt", xm2 4 rfl⟩⟩
set_option maxRecDepth 20000 in
theorem lf_X11_95 : xLF RX11 95 7 6 (tyX7 6) false RX7 := ⟨_, _, _, _, xc7, by decide, tyX7_ok 6 (by decide), rfl, rfl, Or.inr ⟨"RuleCourt", xm2 6 rfl⟩⟩
set_option maxRecDepth 20000 in
theorem lf_X11_98 : xLF RX11 98 7 7 (tyX7 7) false RX7 := ⟨_, _, _, _, xc7, by decide, tyX7_ok 7 (by decide), rfl, rfl, Or.inr ⟨"RuleCourt", xm2 8 rfl⟩⟩
set_option maxRecDepth 20000 in
theorem lf_X2_137 : xLF RX2 137 5 1 (tyX5 1) true RX5 := ⟨_, _, _, _, xc5, by decide, tyX5_ok 1 (by decide), rfl, rfl, Or.inr ⟨"RuleCourt", xm2 84 rfl⟩⟩
set_option maxRecDepth 20000 in
theorem lf_X11_161 : xLF RX11 161 5 1 (tyX5 1) true RX5 := ⟨_, _, _, _, xc5, by decide, tyX5_ok 1 (by decide), rfl, rfl, Or.inr ⟨"RuleCourt", xm2 85 rfl⟩⟩
set_option maxRecDepth 20000 in
theorem lf_X2_49 : xLF RX2 49 5 2 (tyX5 2) true RX5 := ⟨_, _, _, _, xc5, by decide, tyX5_ok 2 (by decide), rfl, rfl, Or.inr ⟨"RuleCourt", xm2 87 rfl⟩⟩
set_option maxRecDepth 20000 in
theorem lf_X11_169 : xLF RX11 169 5 2 (tyX5 2) true RX5 := ⟨_, _, _, _, xc5, by decide, tyX5_ok 2 (by decide), rfl, rfl, Or.inr ⟨"RuleCourt", xm2 88 rfl⟩⟩
set_option maxRecDepth 20000 in
theorem lf_X3_96 : xLF RX3 96 5 3 (tyX5 3) true RX5 := ⟨_, _, _, _, xc5, by decide, tyX5_ok 3 (by decide), rfl, rfl, Or.inr ⟨"RuleCourt", xm2 90 rfl⟩⟩
set_option maxRecDepth 20000 in
theorem lf_X3_73 : xLF RX3 73 5 4 (tyX5 4) false RX5 := ⟨_, _, _, _, xc5, by decide, tyX5_ok 4 (by decide), rfl, rfl, Or.inr ⟨"RuleCourt", xm2 92 rfl⟩⟩
set_option maxRecDepth 20000 in
theorem lf_X11_261 : xLF RX11 261 1 8 (tyX1 8) true RX1 := ⟨_, _, _, _, xc1, by decide, tyX1_ok 8 (by decide), rfl, rfl, Or.inr ⟨"RuleCourt", xm2 119 rfl⟩⟩
set_option maxRecDepth 20000 in
theorem lf_X11_258 : xLF RX11 258 1 9 (tyX1 9) false RX1 := ⟨_, _, _, _, xc1, by decide, tyX1_ok 9 (by decide), rfl, rfl, Or.inr ⟨"RuleCourt", xm2 121 rfl⟩⟩
set_option maxRecDepth 20000 in
theorem lf_X14_99 : xLF RX14 99 13 6 (tyX13 6) false RX13 := ⟨_, _, _, _, xc13, by decide, tyX13_ok 6 (by decide), rfl, rfl, Or.inr ⟨"RuleCourtModel", xm4 213 rfl⟩⟩
set_option maxRecDepth 20000 in
theorem lf_X14_101 : xLF RX14 101 13 7 (tyX13 7) false RX13 := ⟨_, _, _, _, xc13, by decide, tyX13_ok 7 (by decide), rfl, rfl, Or.inr ⟨"RuleCourtModel", xm4 214 rfl⟩⟩
set_option maxRecDepth 20000 in
theorem lf_X14_199 : xLF RX14 199 12 0 (tyX12 0) false RX12 := ⟨_, _, _, _, xc12, by decide, tyX12_ok 0 (by decide), rfl, rfl, Or.inr ⟨"RuleCourtModel", xm5 149 rfl⟩⟩
set_option maxRecDepth 20000 in
theorem lf_X14_153 : xLF RX14 153 12 1 (tyX12 1) false RX12 := ⟨_, _, _, _, xc12, by decide, tyX12_ok 1 (by decide), rfl, rfl, Or.inr ⟨"RuleCourtModel", xm5 151 rfl⟩⟩
set_option maxRecDepth 20000 in
theorem lf_X14_187 : xLF RX14 187 12 2 (tyX12 2) false RX12 := ⟨_, _, _, _, xc12, by decide, tyX12_ok 2 (by decide), rfl, rfl, Or.inr ⟨"RuleCourtModel", xm5 152 rfl⟩⟩
set_option maxRecDepth 20000 in
theorem lf_X14_169 : xLF RX14 169 12 3 (tyX12 3) true RX12 := ⟨_, _, _, _, xc12, by decide, tyX12_ok 3 (by decide), rfl, rfl, Or.inr ⟨"RuleCourtModel", xm5 154 rfl⟩⟩
set_option maxRecDepth 20000 in
theorem lf_X14_171 : xLF RX14 171 12 4 (tyX12 4) true RX12 := ⟨_, _, _, _, xc12, by decide, tyX12_ok 4 (by decide), rfl, rfl, Or.inr ⟨"RuleCourtModel", xm5 156 rfl⟩⟩
set_option maxRecDepth 20000 in
theorem lf_X14_173 : xLF RX14 173 12 5 (tyX12 5) true RX12 := ⟨_, _, _, _, xc12, by decide, tyX12_ok 5 (by decide), rfl, rfl, Or.inr ⟨"RuleCourtModel", xm5 158 rfl⟩⟩
set_option maxRecDepth 20000 in
theorem lf_X14_176 : xLF RX14 176 12 6 (tyX12 6) true RX12 := ⟨_, _, _, _, xc12, by decide, tyX12_ok 6 (by decide), rfl, rfl, Or.inr ⟨"RuleCourtModel", xm5 160 rfl⟩⟩
set_option maxRecDepth 20000 in
theorem lf_X14_156 : xLF RX14 156 12 7 (tyX12 7) true RX12 := ⟨_, _, _, _, xc12, by decide, tyX12_ok 7 (by decide), rfl, rfl, Or.inr ⟨"RuleCourtModel", xm5 162 rfl⟩⟩
