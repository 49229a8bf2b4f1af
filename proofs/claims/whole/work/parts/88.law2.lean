/-! THE LAW: its cases. Written by mk_law.py. -/
section ZLW
variable {p : Program} {l : Launch} {e : Env} {s : State} {m : MethodId} {below : List Frame} {meth : Method} {c : Code} {H : Heap} {locs : List Loc} {cells slots : Nat} {Q : State → Prop}
variable {ls : Array Slot} {b L i : Nat} {xs : Nat → Int32} {D : va_G} {G : zg_G} {K : zh_G} {T : zm_S} {Y : zm_Y} {du pd : Nat → Int32}
set_option maxHeartbeats 4000000 in
set_option maxRecDepth 100000 in
theorem zl_open (F : CallFix p m c nc_L_law 4 s #[Value.ref b] zw_big "DayEndBankLaw") (hX : va_X b L xs s s.heap) (hbl : b < s.heap.size) (hL : L ≤ 2560) (hF : zl_F D G K s) (hi : 5 * i + 5 ≤ L) (hJ : zs_J T (31 * i)) (hPb : va_P D vwCl (zb_cells G (zs_B T du pd)) H) (hPm : va_P D vwCl (zm_cells K T Y) H) (hS : va_S (zl_A s) s.heap H locs) (hl : lv_has ls 4 (zl_l b G K i)) (hcs : cells ≤ 600000 ∧ slots ≤ 7302250)
    (kk : ∀ (T1 : zm_S) (Y1 : zm_Y) (du1 pd1 : Nat → Int32) (H1 : Heap) (locs1 : List Loc), zs_J T1 (31 * (i + 1)) → va_P D vwCl (zb_cells G (zs_B T1 du1 pd1)) H1 → va_P D vwCl (zm_cells K T1 Y1) H1 → va_S (zl_A s) s.heap H1 locs1 → W p l e room_1 s m #[Value.ref b] below meth c H1 locs1 cells slots Q (F0 m 692 ls [])) : W p l e room_1 s m #[Value.ref b] below meth c H locs cells slots Q (F0 m 128 ls []) := by
  have hx := F.1
  have hb := F.2.1
  refine lv_aload_n hx hb nd_L_law_128 rfl (zv_at hl 1 rfl) ?_
  refine zl_arg F hX hbl hL hS hl (j := 1) (by omega) (by decide) nd_L_law_129 nd_L_law_130 nd_L_law_131 nd_L_law_132 nd_L_law_133 ?_
  refine zl_arg F hX hbl hL hS hl (j := 2) (by omega) (by decide) nd_L_law_134 nd_L_law_135 nd_L_law_136 nd_L_law_137 nd_L_law_138 ?_
  refine zl_arg F hX hbl hL hS hl (j := 3) (by omega) (by decide) nd_L_law_139 nd_L_law_140 nd_L_law_141 nd_L_law_142 nd_L_law_143 ?_
  refine zl_arg F hX hbl hL hS hl (j := 4) (by omega) (by decide) nd_L_law_144 nd_L_law_145 nd_L_law_146 nd_L_law_147 nd_L_law_148 ?_
  refine zl_bi (As := [.int (xs (5 * i + 1)), .int (xs (5 * i + 2)), .int (xs (5 * i + 3)), .int (xs (5 * i + 4))]) (rest := []) F hF (c_B_open l D G hF.1 _ (zs_I_b hJ.1 du pd) (xs (5 * i + 1)) (xs (5 * i + 2)) (xs (5 * i + 3)) (xs (5 * i + 4))) (zs_open hJ.1 du pd (xs (5 * i + 1)) (xs (5 * i + 2)) (xs (5 * i + 3)) (xs (5 * i + 4))) hPb hPm rfl nk_B_open nw_189 ⟨rfl, rfl, Nat.le_of_ble_eq_true rfl, Nat.le_of_ble_eq_true rfl⟩ rfl hl.1 rfl (Nat.le_of_ble_eq_true rfl) hcs nd_L_law_149 hS (fun H1 locs1 hPb hPm hS => ?_)
  refine lv_aload_n hx hb nd_L_law_152 rfl (zv_at hl 2 rfl) ?_
  refine zl_arg F hX hbl hL hS hl (j := 1) (by omega) (by decide) nd_L_law_153 nd_L_law_154 nd_L_law_155 nd_L_law_156 nd_L_law_157 ?_
  refine zl_arg F hX hbl hL hS hl (j := 2) (by omega) (by decide) nd_L_law_158 nd_L_law_159 nd_L_law_160 nd_L_law_161 nd_L_law_162 ?_
  refine zl_arg F hX hbl hL hS hl (j := 3) (by omega) (by decide) nd_L_law_163 nd_L_law_164 nd_L_law_165 nd_L_law_166 nd_L_law_167 ?_
  refine zl_arg F hX hbl hL hS hl (j := 4) (by omega) (by decide) nd_L_law_168 nd_L_law_169 nd_L_law_170 nd_L_law_171 nd_L_law_172 ?_
  refine zl_mi (As := [.int (xs (5 * i + 1)), .int (xs (5 * i + 2)), .int (xs (5 * i + 3)), .int (xs (5 * i + 4))]) F hF (c_M_open l D K hF.2.1 T Y (xs (5 * i + 1)) (xs (5 * i + 2)) (xs (5 * i + 3)) (xs (5 * i + 4)) (zs_I_m hJ.1)) hPb hPm rfl nk_M_open nw_561 ⟨rfl, rfl, Nat.le_of_ble_eq_true rfl, Nat.le_of_ble_eq_true rfl⟩ rfl hl.1 rfl (Nat.le_of_ble_eq_true rfl) hcs nd_L_law_173 hS (fun Y1 H1 locs1 hPm hPb hS => ?_)
  exact lv_icmp_eq (tgt := 692) hx hb nd_L_law_176 (by decide) (fun _ => kk _ _ _ _ _ _ (zs_J_mono (zs_J_open hJ (xs (5 * i + 1)) (xs (5 * i + 2)) (xs (5 * i + 3)) (xs (5 * i + 4))) (by omega)) hPb hPm hS) (fun h => absurd rfl h)
set_option maxHeartbeats 4000000 in
set_option maxRecDepth 100000 in
theorem zl_pay (F : CallFix p m c nc_L_law 4 s #[Value.ref b] zw_big "DayEndBankLaw") (hX : va_X b L xs s s.heap) (hbl : b < s.heap.size) (hL : L ≤ 2560) (hF : zl_F D G K s) (hi : 5 * i + 5 ≤ L) (hJ : zs_J T (31 * i)) (hPb : va_P D vwCl (zb_cells G (zs_B T du pd)) H) (hPm : va_P D vwCl (zm_cells K T Y) H) (hS : va_S (zl_A s) s.heap H locs) (hl : lv_has ls 4 (zl_l b G K i)) (hcs : cells ≤ 600000 ∧ slots ≤ 7302250)
    (kk : ∀ (T1 : zm_S) (Y1 : zm_Y) (du1 pd1 : Nat → Int32) (H1 : Heap) (locs1 : List Loc), zs_J T1 (31 * (i + 1)) → va_P D vwCl (zb_cells G (zs_B T1 du1 pd1)) H1 → va_P D vwCl (zm_cells K T1 Y1) H1 → va_S (zl_A s) s.heap H1 locs1 → W p l e room_1 s m #[Value.ref b] below meth c H1 locs1 cells slots Q (F0 m 692 ls [])) : W p l e room_1 s m #[Value.ref b] below meth c H locs cells slots Q (F0 m 181 ls []) := by
  have hx := F.1
  have hb := F.2.1
  refine lv_aload_n hx hb nd_L_law_181 rfl (zv_at hl 1 rfl) ?_
  refine zl_arg F hX hbl hL hS hl (j := 1) (by omega) (by decide) nd_L_law_182 nd_L_law_183 nd_L_law_184 nd_L_law_185 nd_L_law_186 ?_
  refine zl_arg F hX hbl hL hS hl (j := 2) (by omega) (by decide) nd_L_law_187 nd_L_law_188 nd_L_law_189 nd_L_law_190 nd_L_law_191 ?_
  refine zl_arg F hX hbl hL hS hl (j := 3) (by omega) (by decide) nd_L_law_192 nd_L_law_193 nd_L_law_194 nd_L_law_195 nd_L_law_196 ?_
  refine zl_bi (As := [.int (xs (5 * i + 1)), .int (xs (5 * i + 2)), .int (xs (5 * i + 3))]) (rest := []) F hF (c_B_pay l D G hF.1 _ (zs_I_b hJ.1 du pd) (xs (5 * i + 1)) (xs (5 * i + 2)) (xs (5 * i + 3))) (zs_pay hJ.1 du pd (xs (5 * i + 1)) (xs (5 * i + 2)) (xs (5 * i + 3))) hPb hPm rfl nk_B_pay nw_232 ⟨rfl, rfl, Nat.le_of_ble_eq_true rfl, Nat.le_of_ble_eq_true rfl⟩ rfl hl.1 rfl (Nat.le_of_ble_eq_true rfl) hcs nd_L_law_197 hS (fun H1 locs1 hPb hPm hS => ?_)
  refine lv_aload_n hx hb nd_L_law_200 rfl (zv_at hl 2 rfl) ?_
  refine zl_arg F hX hbl hL hS hl (j := 1) (by omega) (by decide) nd_L_law_201 nd_L_law_202 nd_L_law_203 nd_L_law_204 nd_L_law_205 ?_
  refine zl_arg F hX hbl hL hS hl (j := 2) (by omega) (by decide) nd_L_law_206 nd_L_law_207 nd_L_law_208 nd_L_law_209 nd_L_law_210 ?_
  refine zl_arg F hX hbl hL hS hl (j := 3) (by omega) (by decide) nd_L_law_211 nd_L_law_212 nd_L_law_213 nd_L_law_214 nd_L_law_215 ?_
  refine zl_mi (As := [.int (xs (5 * i + 1)), .int (xs (5 * i + 2)), .int (xs (5 * i + 3))]) F hF (c_M_pay l D K hF.2.1 T Y (xs (5 * i + 1)) (xs (5 * i + 2)) (xs (5 * i + 3)) (zs_I_m hJ.1)) hPb hPm rfl nk_M_pay nw_582 ⟨rfl, rfl, Nat.le_of_ble_eq_true rfl, Nat.le_of_ble_eq_true rfl⟩ rfl hl.1 rfl (Nat.le_of_ble_eq_true rfl) hcs nd_L_law_216 hS (fun Y1 H1 locs1 hPm hPb hS => ?_)
  exact lv_icmp_eq (tgt := 692) hx hb nd_L_law_219 (by decide) (fun _ => kk _ _ _ _ _ _ (zs_J_mono (zs_J_pay hJ (xs (5 * i + 1)) (xs (5 * i + 2)) (xs (5 * i + 3))) (by omega)) hPb hPm hS) (fun h => absurd rfl h)
set_option maxHeartbeats 4000000 in
set_option maxRecDepth 100000 in
theorem zl_hold (F : CallFix p m c nc_L_law 4 s #[Value.ref b] zw_big "DayEndBankLaw") (hX : va_X b L xs s s.heap) (hbl : b < s.heap.size) (hL : L ≤ 2560) (hF : zl_F D G K s) (hi : 5 * i + 5 ≤ L) (hJ : zs_J T (31 * i)) (hPb : va_P D vwCl (zb_cells G (zs_B T du pd)) H) (hPm : va_P D vwCl (zm_cells K T Y) H) (hS : va_S (zl_A s) s.heap H locs) (hl : lv_has ls 4 (zl_l b G K i)) (hcs : cells ≤ 600000 ∧ slots ≤ 7302250)
    (kk : ∀ (T1 : zm_S) (Y1 : zm_Y) (du1 pd1 : Nat → Int32) (H1 : Heap) (locs1 : List Loc), zs_J T1 (31 * (i + 1)) → va_P D vwCl (zb_cells G (zs_B T1 du1 pd1)) H1 → va_P D vwCl (zm_cells K T1 Y1) H1 → va_S (zl_A s) s.heap H1 locs1 → W p l e room_1 s m #[Value.ref b] below meth c H1 locs1 cells slots Q (F0 m 692 ls [])) : W p l e room_1 s m #[Value.ref b] below meth c H locs cells slots Q (F0 m 224 ls []) := by
  have hx := F.1
  have hb := F.2.1
  refine lv_aload_n hx hb nd_L_law_224 rfl (zv_at hl 1 rfl) ?_
  refine zl_arg F hX hbl hL hS hl (j := 1) (by omega) (by decide) nd_L_law_225 nd_L_law_226 nd_L_law_227 nd_L_law_228 nd_L_law_229 ?_
  refine zl_arg F hX hbl hL hS hl (j := 2) (by omega) (by decide) nd_L_law_230 nd_L_law_231 nd_L_law_232 nd_L_law_233 nd_L_law_234 ?_
  refine zl_bi (As := [.int (xs (5 * i + 1)), .int (xs (5 * i + 2))]) (rest := []) F hF (c_B_hold l D G hF.1 _ (zs_I_b hJ.1 du pd) (xs (5 * i + 1)) (xs (5 * i + 2))) (zs_hold hJ.1 du pd (xs (5 * i + 1)) (xs (5 * i + 2))) hPb hPm rfl nk_B_hold nw_259 ⟨rfl, rfl, Nat.le_of_ble_eq_true rfl, Nat.le_of_ble_eq_true rfl⟩ rfl hl.1 rfl (Nat.le_of_ble_eq_true rfl) hcs nd_L_law_235 hS (fun H1 locs1 hPb hPm hS => ?_)
  refine lv_aload_n hx hb nd_L_law_238 rfl (zv_at hl 2 rfl) ?_
  refine zl_arg F hX hbl hL hS hl (j := 1) (by omega) (by decide) nd_L_law_239 nd_L_law_240 nd_L_law_241 nd_L_law_242 nd_L_law_243 ?_
  refine zl_arg F hX hbl hL hS hl (j := 2) (by omega) (by decide) nd_L_law_244 nd_L_law_245 nd_L_law_246 nd_L_law_247 nd_L_law_248 ?_
  refine zl_mi (As := [.int (xs (5 * i + 1)), .int (xs (5 * i + 2))]) F hF (c_M_hold l D K hF.2.1 T Y (xs (5 * i + 1)) (xs (5 * i + 2)) (zs_I_m hJ.1)) hPb hPm rfl nk_M_hold nw_614 ⟨rfl, rfl, Nat.le_of_ble_eq_true rfl, Nat.le_of_ble_eq_true rfl⟩ rfl hl.1 rfl (Nat.le_of_ble_eq_true rfl) hcs nd_L_law_249 hS (fun Y1 H1 locs1 hPm hPb hS => ?_)
  exact lv_icmp_eq (tgt := 692) hx hb nd_L_law_252 (by decide) (fun _ => kk _ _ _ _ _ _ (zs_J_mono (zs_J_hold hJ (xs (5 * i + 1)) (xs (5 * i + 2))) (by omega)) hPb hPm hS) (fun h => absurd rfl h)
set_option maxHeartbeats 4000000 in
set_option maxRecDepth 100000 in
theorem zl_release (F : CallFix p m c nc_L_law 4 s #[Value.ref b] zw_big "DayEndBankLaw") (hX : va_X b L xs s s.heap) (hbl : b < s.heap.size) (hL : L ≤ 2560) (hF : zl_F D G K s) (hi : 5 * i + 5 ≤ L) (hJ : zs_J T (31 * i)) (hPb : va_P D vwCl (zb_cells G (zs_B T du pd)) H) (hPm : va_P D vwCl (zm_cells K T Y) H) (hS : va_S (zl_A s) s.heap H locs) (hl : lv_has ls 4 (zl_l b G K i)) (hcs : cells ≤ 600000 ∧ slots ≤ 7302250)
    (kk : ∀ (T1 : zm_S) (Y1 : zm_Y) (du1 pd1 : Nat → Int32) (H1 : Heap) (locs1 : List Loc), zs_J T1 (31 * (i + 1)) → va_P D vwCl (zb_cells G (zs_B T1 du1 pd1)) H1 → va_P D vwCl (zm_cells K T1 Y1) H1 → va_S (zl_A s) s.heap H1 locs1 → W p l e room_1 s m #[Value.ref b] below meth c H1 locs1 cells slots Q (F0 m 692 ls [])) : W p l e room_1 s m #[Value.ref b] below meth c H locs cells slots Q (F0 m 257 ls []) := by
  have hx := F.1
  have hb := F.2.1
  refine lv_aload_n hx hb nd_L_law_257 rfl (zv_at hl 1 rfl) ?_
  refine zl_arg F hX hbl hL hS hl (j := 1) (by omega) (by decide) nd_L_law_258 nd_L_law_259 nd_L_law_260 nd_L_law_261 nd_L_law_262 ?_
  refine zl_bi (As := [.int (xs (5 * i + 1))]) (rest := []) F hF (c_B_release l D G hF.1 _ (zs_I_b hJ.1 du pd) (xs (5 * i + 1))) (zs_release hJ.1 du pd (xs (5 * i + 1))) hPb hPm rfl nk_B_release nw_271 ⟨rfl, rfl, Nat.le_of_ble_eq_true rfl, Nat.le_of_ble_eq_true rfl⟩ rfl hl.1 rfl (Nat.le_of_ble_eq_true rfl) hcs nd_L_law_263 hS (fun H1 locs1 hPb hPm hS => ?_)
  refine lv_aload_n hx hb nd_L_law_266 rfl (zv_at hl 2 rfl) ?_
  refine zl_arg F hX hbl hL hS hl (j := 1) (by omega) (by decide) nd_L_law_267 nd_L_law_268 nd_L_law_269 nd_L_law_270 nd_L_law_271 ?_
  refine zl_mi (As := [.int (xs (5 * i + 1))]) F hF (c_M_release l D K hF.2.1 T Y (xs (5 * i + 1))) hPb hPm rfl nk_M_release nw_618 ⟨rfl, rfl, Nat.le_of_ble_eq_true rfl, Nat.le_of_ble_eq_true rfl⟩ rfl hl.1 rfl (Nat.le_of_ble_eq_true rfl) hcs nd_L_law_272 hS (fun Y1 H1 locs1 hPm hPb hS => ?_)
  exact lv_icmp_eq (tgt := 692) hx hb nd_L_law_275 (by decide) (fun _ => kk _ _ _ _ _ _ (zs_J_mono (zs_J_release hJ (xs (5 * i + 1))) (by omega)) hPb hPm hS) (fun h => absurd rfl h)
set_option maxHeartbeats 4000000 in
set_option maxRecDepth 100000 in
theorem zl_settle (F : CallFix p m c nc_L_law 4 s #[Value.ref b] zw_big "DayEndBankLaw") (hX : va_X b L xs s s.heap) (hbl : b < s.heap.size) (hL : L ≤ 2560) (hF : zl_F D G K s) (hi : 5 * i + 5 ≤ L) (hJ : zs_J T (31 * i)) (hPb : va_P D vwCl (zb_cells G (zs_B T du pd)) H) (hPm : va_P D vwCl (zm_cells K T Y) H) (hS : va_S (zl_A s) s.heap H locs) (hl : lv_has ls 4 (zl_l b G K i)) (hcs : cells ≤ 600000 ∧ slots ≤ 7302250)
    (kk : ∀ (T1 : zm_S) (Y1 : zm_Y) (du1 pd1 : Nat → Int32) (H1 : Heap) (locs1 : List Loc), zs_J T1 (31 * (i + 1)) → va_P D vwCl (zb_cells G (zs_B T1 du1 pd1)) H1 → va_P D vwCl (zm_cells K T1 Y1) H1 → va_S (zl_A s) s.heap H1 locs1 → W p l e room_1 s m #[Value.ref b] below meth c H1 locs1 cells slots Q (F0 m 692 ls [])) : W p l e room_1 s m #[Value.ref b] below meth c H locs cells slots Q (F0 m 280 ls []) := by
  have hx := F.1
  have hb := F.2.1
  refine lv_aload_n hx hb nd_L_law_280 rfl (zv_at hl 1 rfl) ?_
  refine zl_arg F hX hbl hL hS hl (j := 1) (by omega) (by decide) nd_L_law_281 nd_L_law_282 nd_L_law_283 nd_L_law_284 nd_L_law_285 ?_
  refine zl_arg F hX hbl hL hS hl (j := 2) (by omega) (by decide) nd_L_law_286 nd_L_law_287 nd_L_law_288 nd_L_law_289 nd_L_law_290 ?_
  refine zl_arg F hX hbl hL hS hl (j := 3) (by omega) (by decide) nd_L_law_291 nd_L_law_292 nd_L_law_293 nd_L_law_294 nd_L_law_295 ?_
  refine zl_bi (As := [.int (xs (5 * i + 1)), .int (xs (5 * i + 2)), .int (xs (5 * i + 3))]) (rest := []) F hF (c_B_settle l D G hF.1 _ (zs_I_b hJ.1 du pd) (xs (5 * i + 1)) (xs (5 * i + 2)) (xs (5 * i + 3))) (zs_settle hJ.1 du pd (xs (5 * i + 1)) (xs (5 * i + 2)) (xs (5 * i + 3))) hPb hPm rfl nk_B_settle nw_283 ⟨rfl, rfl, Nat.le_of_ble_eq_true rfl, Nat.le_of_ble_eq_true rfl⟩ rfl hl.1 rfl (Nat.le_of_ble_eq_true rfl) hcs nd_L_law_296 hS (fun H1 locs1 hPb hPm hS => ?_)
  refine lv_aload_n hx hb nd_L_law_299 rfl (zv_at hl 2 rfl) ?_
  refine zl_arg F hX hbl hL hS hl (j := 1) (by omega) (by decide) nd_L_law_300 nd_L_law_301 nd_L_law_302 nd_L_law_303 nd_L_law_304 ?_
  refine zl_arg F hX hbl hL hS hl (j := 2) (by omega) (by decide) nd_L_law_305 nd_L_law_306 nd_L_law_307 nd_L_law_308 nd_L_law_309 ?_
  refine zl_arg F hX hbl hL hS hl (j := 3) (by omega) (by decide) nd_L_law_310 nd_L_law_311 nd_L_law_312 nd_L_law_313 nd_L_law_314 ?_
  refine zl_mi (As := [.int (xs (5 * i + 1)), .int (xs (5 * i + 2)), .int (xs (5 * i + 3))]) F hF (c_M_settle l D K hF.2.1 T Y (xs (5 * i + 1)) (xs (5 * i + 2)) (xs (5 * i + 3)) (zs_I_m hJ.1)) hPb hPm rfl nk_M_settle nw_626 ⟨rfl, rfl, Nat.le_of_ble_eq_true rfl, Nat.le_of_ble_eq_true rfl⟩ rfl hl.1 rfl (Nat.le_of_ble_eq_true rfl) hcs nd_L_law_315 hS (fun Y1 H1 locs1 hPm hPb hS => ?_)
  exact lv_icmp_eq (tgt := 692) hx hb nd_L_law_318 (by decide) (fun _ => kk _ _ _ _ _ _ (zs_J_mono (zs_J_settle hJ (xs (5 * i + 1)) (xs (5 * i + 2)) (xs (5 * i + 3))) (by omega)) hPb hPm hS) (fun h => absurd rfl h)
set_option maxHeartbeats 4000000 in
set_option maxRecDepth 100000 in
theorem zl_order (F : CallFix p m c nc_L_law 4 s #[Value.ref b] zw_big "DayEndBankLaw") (hX : va_X b L xs s s.heap) (hbl : b < s.heap.size) (hL : L ≤ 2560) (hF : zl_F D G K s) (hi : 5 * i + 5 ≤ L) (hJ : zs_J T (31 * i)) (hPb : va_P D vwCl (zb_cells G (zs_B T du pd)) H) (hPm : va_P D vwCl (zm_cells K T Y) H) (hS : va_S (zl_A s) s.heap H locs) (hl : lv_has ls 4 (zl_l b G K i)) (hcs : cells ≤ 600000 ∧ slots ≤ 7302250)
    (kk : ∀ (T1 : zm_S) (Y1 : zm_Y) (du1 pd1 : Nat → Int32) (H1 : Heap) (locs1 : List Loc), zs_J T1 (31 * (i + 1)) → va_P D vwCl (zb_cells G (zs_B T1 du1 pd1)) H1 → va_P D vwCl (zm_cells K T1 Y1) H1 → va_S (zl_A s) s.heap H1 locs1 → W p l e room_1 s m #[Value.ref b] below meth c H1 locs1 cells slots Q (F0 m 692 ls [])) : W p l e room_1 s m #[Value.ref b] below meth c H locs cells slots Q (F0 m 323 ls []) := by
  have hx := F.1
  have hb := F.2.1
  refine lv_aload_n hx hb nd_L_law_323 rfl (zv_at hl 1 rfl) ?_
  refine zl_arg F hX hbl hL hS hl (j := 1) (by omega) (by decide) nd_L_law_324 nd_L_law_325 nd_L_law_326 nd_L_law_327 nd_L_law_328 ?_
  refine zl_arg F hX hbl hL hS hl (j := 2) (by omega) (by decide) nd_L_law_329 nd_L_law_330 nd_L_law_331 nd_L_law_332 nd_L_law_333 ?_
  refine zl_arg F hX hbl hL hS hl (j := 3) (by omega) (by decide) nd_L_law_334 nd_L_law_335 nd_L_law_336 nd_L_law_337 nd_L_law_338 ?_
  refine zl_arg F hX hbl hL hS hl (j := 4) (by omega) (by decide) nd_L_law_339 nd_L_law_340 nd_L_law_341 nd_L_law_342 nd_L_law_343 ?_
  refine zl_bi (As := [.int (xs (5 * i + 1)), .int (xs (5 * i + 2)), .int (xs (5 * i + 3)), .int (xs (5 * i + 4))]) (rest := []) F hF (c_B_order l D G hF.1 _ (zs_I_b hJ.1 du pd) (xs (5 * i + 1)) (xs (5 * i + 2)) (xs (5 * i + 3)) (xs (5 * i + 4))) (zs_order hJ.1 du pd (xs (5 * i + 1)) (xs (5 * i + 2)) (xs (5 * i + 3)) (xs (5 * i + 4))) hPb hPm rfl nk_B_order nw_287 ⟨rfl, rfl, Nat.le_of_ble_eq_true rfl, Nat.le_of_ble_eq_true rfl⟩ rfl hl.1 rfl (Nat.le_of_ble_eq_true rfl) hcs nd_L_law_344 hS (fun H1 locs1 hPb hPm hS => ?_)
  refine lv_aload_n hx hb nd_L_law_347 rfl (zv_at hl 2 rfl) ?_
  refine zl_arg F hX hbl hL hS hl (j := 1) (by omega) (by decide) nd_L_law_348 nd_L_law_349 nd_L_law_350 nd_L_law_351 nd_L_law_352 ?_
  refine zl_arg F hX hbl hL hS hl (j := 2) (by omega) (by decide) nd_L_law_353 nd_L_law_354 nd_L_law_355 nd_L_law_356 nd_L_law_357 ?_
  refine zl_arg F hX hbl hL hS hl (j := 3) (by omega) (by decide) nd_L_law_358 nd_L_law_359 nd_L_law_360 nd_L_law_361 nd_L_law_362 ?_
  refine zl_arg F hX hbl hL hS hl (j := 4) (by omega) (by decide) nd_L_law_363 nd_L_law_364 nd_L_law_365 nd_L_law_366 nd_L_law_367 ?_
  refine zl_mi (As := [.int (xs (5 * i + 1)), .int (xs (5 * i + 2)), .int (xs (5 * i + 3)), .int (xs (5 * i + 4))]) F hF (c_M_order l D K hF.2.1 T Y (xs (5 * i + 1)) (xs (5 * i + 2)) (xs (5 * i + 3)) (xs (5 * i + 4)) (zs_I_m hJ.1)) hPb hPm rfl nk_M_order nw_630 ⟨rfl, rfl, Nat.le_of_ble_eq_true rfl, Nat.le_of_ble_eq_true rfl⟩ rfl hl.1 rfl (Nat.le_of_ble_eq_true rfl) hcs nd_L_law_368 hS (fun Y1 H1 locs1 hPm hPb hS => ?_)
  exact lv_icmp_eq (tgt := 692) hx hb nd_L_law_371 (by decide) (fun _ => kk _ _ _ _ _ _ (zs_J_mono (zs_J_order hJ (xs (5 * i + 1)) (xs (5 * i + 2)) (xs (5 * i + 3)) (xs (5 * i + 4))) (by omega)) hPb hPm hS) (fun h => absurd rfl h)
set_option maxHeartbeats 4000000 in
set_option maxRecDepth 100000 in
theorem zl_rest (F : CallFix p m c nc_L_law 4 s #[Value.ref b] zw_big "DayEndBankLaw") (hX : va_X b L xs s s.heap) (hbl : b < s.heap.size) (hL : L ≤ 2560) (hF : zl_F D G K s) (hi : 5 * i + 5 ≤ L) (hJ : zs_J T (31 * i)) (hPb : va_P D vwCl (zb_cells G (zs_B T du pd)) H) (hPm : va_P D vwCl (zm_cells K T Y) H) (hS : va_S (zl_A s) s.heap H locs) (hl : lv_has ls 4 (zl_l b G K i)) (hcs : cells ≤ 600000 ∧ slots ≤ 7302250)
    (kk : ∀ (T1 : zm_S) (Y1 : zm_Y) (du1 pd1 : Nat → Int32) (H1 : Heap) (locs1 : List Loc), zs_J T1 (31 * (i + 1)) → va_P D vwCl (zb_cells G (zs_B T1 du1 pd1)) H1 → va_P D vwCl (zm_cells K T1 Y1) H1 → va_S (zl_A s) s.heap H1 locs1 → W p l e room_1 s m #[Value.ref b] below meth c H1 locs1 cells slots Q (F0 m 692 ls [])) : W p l e room_1 s m #[Value.ref b] below meth c H locs cells slots Q (F0 m 376 ls []) := by
  have hx := F.1
  have hb := F.2.1
  obtain ⟨j, hj, ej⟩ := hJ.1.2.2.2.2.2.2.1
  refine lv_aload_n hx hb nd_L_law_376 rfl (zv_at hl 1 rfl) ?_
  refine zl_arg F hX hbl hL hS hl (j := 1) (by omega) (by decide) nd_L_law_377 nd_L_law_378 nd_L_law_379 nd_L_law_380 nd_L_law_381 ?_
  refine zl_bi (As := [.int (xs (5 * i + 1))]) (rest := []) F hF (c_B_rest l D G hF.1 _ (zs_I_b hJ.1 du pd) (xs (5 * i + 1))) (zs_rest hJ.1 du pd ej (by omega) (xs (5 * i + 1))) hPb hPm rfl nk_B_rest nw_295 ⟨rfl, rfl, Nat.le_of_ble_eq_true rfl, Nat.le_of_ble_eq_true rfl⟩ rfl hl.1 rfl (Nat.le_of_ble_eq_true rfl) hcs nd_L_law_382 hS (fun H1 locs1 hPb hPm hS => ?_)
  refine lv_aload_n hx hb nd_L_law_385 rfl (zv_at hl 2 rfl) ?_
  refine zl_arg F hX hbl hL hS hl (j := 1) (by omega) (by decide) nd_L_law_386 nd_L_law_387 nd_L_law_388 nd_L_law_389 nd_L_law_390 ?_
  refine zl_mi (As := [.int (xs (5 * i + 1))]) F hF (c_M_rest l D K hF.2.1 T Y (xs (5 * i + 1)) j (by omega) ej (zs_I_m hJ.1)) hPb hPm rfl nk_M_rest nw_634 ⟨rfl, rfl, Nat.le_of_ble_eq_true rfl, Nat.le_of_ble_eq_true rfl⟩ rfl hl.1 rfl (Nat.le_of_ble_eq_true rfl) hcs nd_L_law_391 hS (fun Y1 H1 locs1 hPm hPb hS => ?_)
  exact lv_icmp_eq (tgt := 692) hx hb nd_L_law_394 (by decide) (fun _ => kk _ _ _ _ _ _ (zs_J_mono (zs_J_rest hJ (xs (5 * i + 1))) (by omega)) hPb hPm hS) (fun h => absurd rfl h)
set_option maxHeartbeats 4000000 in
set_option maxRecDepth 100000 in
theorem zl_run (F : CallFix p m c nc_L_law 4 s #[Value.ref b] zw_big "DayEndBankLaw") (hX : va_X b L xs s s.heap) (hbl : b < s.heap.size) (hL : L ≤ 2560) (hF : zl_F D G K s) (hi : 5 * i + 5 ≤ L) (hJ : zs_J T (31 * i)) (hPb : va_P D vwCl (zb_cells G (zs_B T du pd)) H) (hPm : va_P D vwCl (zm_cells K T Y) H) (hS : va_S (zl_A s) s.heap H locs) (hl : lv_has ls 4 (zl_l b G K i)) (hcs : cells ≤ 600000 ∧ slots ≤ 7302250)
    (kk : ∀ (T1 : zm_S) (Y1 : zm_Y) (du1 pd1 : Nat → Int32) (H1 : Heap) (locs1 : List Loc), zs_J T1 (31 * (i + 1)) → va_P D vwCl (zb_cells G (zs_B T1 du1 pd1)) H1 → va_P D vwCl (zm_cells K T1 Y1) H1 → va_S (zl_A s) s.heap H1 locs1 → W p l e room_1 s m #[Value.ref b] below meth c H1 locs1 cells slots Q (F0 m 692 ls [])) : W p l e room_1 s m #[Value.ref b] below meth c H locs cells slots Q (F0 m 399 ls []) := by
  have hx := F.1
  have hb := F.2.1
  obtain ⟨j, hj, ej⟩ := hJ.1.2.2.2.2.2.2.1
  obtain ⟨du2, pd2, hE, hI2, hE2⟩ := zs_run hJ.1 ej hj (by omega) hJ.2 du pd (xs (5 * i + 1))
  refine lv_aload_n hx hb nd_L_law_399 rfl (zv_at hl 1 rfl) ?_
  refine zl_arg F hX hbl hL hS hl (j := 1) (by omega) (by decide) nd_L_law_400 nd_L_law_401 nd_L_law_402 nd_L_law_403 nd_L_law_404 ?_
  refine zl_bi (As := [.int (xs (5 * i + 1))]) (rest := []) F hF (c_B_run l D G hF.1 _ (zs_I_b hJ.1 du pd) (xs (5 * i + 1))) hE hPb hPm rfl nk_B_run nw_335 ⟨rfl, rfl, Nat.le_of_ble_eq_true rfl, Nat.le_of_ble_eq_true rfl⟩ rfl hl.1 rfl (Nat.le_of_ble_eq_true rfl) hcs nd_L_law_405 hS (fun H1 locs1 hPb hPm hS => ?_)
  refine lv_aload_n hx hb nd_L_law_408 rfl (zv_at hl 2 rfl) ?_
  refine zl_arg F hX hbl hL hS hl (j := 1) (by omega) (by decide) nd_L_law_409 nd_L_law_410 nd_L_law_411 nd_L_law_412 nd_L_law_413 ?_
  refine zl_mi (As := [.int (xs (5 * i + 1))]) F hF (c_M_run l D K hF.2.1 T Y (xs (5 * i + 1)) j (by omega) ej (zs_I_m hJ.1) (zs_I_o hJ.1)) hPb hPm rfl nk_M_run nw_656 ⟨rfl, rfl, Nat.le_of_ble_eq_true rfl, Nat.le_of_ble_eq_true rfl⟩ rfl hl.1 rfl (Nat.le_of_ble_eq_true rfl) hcs nd_L_law_414 hS (fun Y1 H1 locs1 hPm hPb hS => ?_)
  exact lv_icmp_eq (tgt := 692) hx hb nd_L_law_417 (by decide) (fun _ => kk _ _ _ _ _ _ (zs_J_mono (B := 31 * i + 31) ⟨hI2, hE2⟩ (by omega)) hPb hPm hS) (fun h => absurd rfl h)
set_option maxHeartbeats 4000000 in
set_option maxRecDepth 100000 in
theorem zl_fuse (F : CallFix p m c nc_L_law 4 s #[Value.ref b] zw_big "DayEndBankLaw") (hX : va_X b L xs s s.heap) (hbl : b < s.heap.size) (hL : L ≤ 2560) (hF : zl_F D G K s) (hi : 5 * i + 5 ≤ L) (hJ : zs_J T (31 * i)) (hPb : va_P D vwCl (zb_cells G (zs_B T du pd)) H) (hPm : va_P D vwCl (zm_cells K T Y) H) (hS : va_S (zl_A s) s.heap H locs) (hl : lv_has ls 4 (zl_l b G K i)) (hcs : cells ≤ 600000 ∧ slots ≤ 7302250)
    (kk : ∀ (T1 : zm_S) (Y1 : zm_Y) (du1 pd1 : Nat → Int32) (H1 : Heap) (locs1 : List Loc), zs_J T1 (31 * (i + 1)) → va_P D vwCl (zb_cells G (zs_B T1 du1 pd1)) H1 → va_P D vwCl (zm_cells K T1 Y1) H1 → va_S (zl_A s) s.heap H1 locs1 → W p l e room_1 s m #[Value.ref b] below meth c H1 locs1 cells slots Q (F0 m 692 ls [])) : W p l e room_1 s m #[Value.ref b] below meth c H locs cells slots Q (F0 m 422 ls []) := by
  have hx := F.1
  have hb := F.2.1
  refine lv_aload_n hx hb nd_L_law_422 rfl (zv_at hl 1 rfl) ?_
  refine zl_arg F hX hbl hL hS hl (j := 1) (by omega) (by decide) nd_L_law_423 nd_L_law_424 nd_L_law_425 nd_L_law_426 nd_L_law_427 ?_
  refine zl_bi (As := [.int (xs (5 * i + 1))]) (rest := []) F hF (c_B_fuse l D G hF.1 _ (xs (5 * i + 1))) (zs_fuse T du pd (xs (5 * i + 1))) hPb hPm rfl nk_B_fuse nw_404 ⟨rfl, rfl, Nat.le_of_ble_eq_true rfl, Nat.le_of_ble_eq_true rfl⟩ rfl hl.1 rfl (Nat.le_of_ble_eq_true rfl) hcs nd_L_law_428 hS (fun H1 locs1 hPb hPm hS => ?_)
  refine lv_aload_n hx hb nd_L_law_431 rfl (zv_at hl 2 rfl) ?_
  refine zl_arg F hX hbl hL hS hl (j := 1) (by omega) (by decide) nd_L_law_432 nd_L_law_433 nd_L_law_434 nd_L_law_435 nd_L_law_436 ?_
  refine zl_mi (As := [.int (xs (5 * i + 1))]) F hF (c_M_fuse l D K hF.2.1 T Y (xs (5 * i + 1))) hPb hPm rfl nk_M_fuse nw_686 ⟨rfl, rfl, Nat.le_of_ble_eq_true rfl, Nat.le_of_ble_eq_true rfl⟩ rfl hl.1 rfl (Nat.le_of_ble_eq_true rfl) hcs nd_L_law_437 hS (fun Y1 H1 locs1 hPm hPb hS => ?_)
  exact lv_icmp_eq (tgt := 692) hx hb nd_L_law_440 (by decide) (fun _ => kk _ _ _ _ _ _ (zs_J_mono (zs_J_fuse hJ (xs (5 * i + 1))) (by omega)) hPb hPm hS) (fun h => absurd rfl h)
set_option maxHeartbeats 4000000 in
set_option maxRecDepth 100000 in
theorem zl_restart (F : CallFix p m c nc_L_law 4 s #[Value.ref b] zw_big "DayEndBankLaw") (hX : va_X b L xs s s.heap) (hbl : b < s.heap.size) (hL : L ≤ 2560) (hF : zl_F D G K s) (hi : 5 * i + 5 ≤ L) (hJ : zs_J T (31 * i)) (hPb : va_P D vwCl (zb_cells G (zs_B T du pd)) H) (hPm : va_P D vwCl (zm_cells K T Y) H) (hS : va_S (zl_A s) s.heap H locs) (hl : lv_has ls 4 (zl_l b G K i)) (hcs : cells ≤ 600000 ∧ slots ≤ 7302250)
    (kk : ∀ (T1 : zm_S) (Y1 : zm_Y) (du1 pd1 : Nat → Int32) (H1 : Heap) (locs1 : List Loc), zs_J T1 (31 * (i + 1)) → va_P D vwCl (zb_cells G (zs_B T1 du1 pd1)) H1 → va_P D vwCl (zm_cells K T1 Y1) H1 → va_S (zl_A s) s.heap H1 locs1 → W p l e room_1 s m #[Value.ref b] below meth c H1 locs1 cells slots Q (F0 m 692 ls [])) : W p l e room_1 s m #[Value.ref b] below meth c H locs cells slots Q (F0 m 445 ls []) := by
  have hx := F.1
  have hb := F.2.1
  refine lv_aload_n hx hb nd_L_law_445 rfl (zv_at hl 1 rfl) ?_
  refine zl_bi (As := []) (rest := []) F hF (c_B_restart l D G hF.1 _ ) (zs_restart T du pd ) hPb hPm rfl nk_B_restart nw_408 ⟨rfl, rfl, Nat.le_of_ble_eq_true rfl, Nat.le_of_ble_eq_true rfl⟩ rfl hl.1 rfl (Nat.le_of_ble_eq_true rfl) hcs nd_L_law_446 hS (fun H1 locs1 hPb hPm hS => ?_)
  refine lv_aload_n hx hb nd_L_law_449 rfl (zv_at hl 2 rfl) ?_
  refine zl_mi (As := []) F hF (c_M_restart l D K hF.2.1 T Y ) hPb hPm rfl nk_M_restart nw_690 ⟨rfl, rfl, Nat.le_of_ble_eq_true rfl, Nat.le_of_ble_eq_true rfl⟩ rfl hl.1 rfl (Nat.le_of_ble_eq_true rfl) hcs nd_L_law_450 hS (fun Y1 H1 locs1 hPm hPb hS => ?_)
  exact lv_icmp_eq (tgt := 692) hx hb nd_L_law_453 (by decide) (fun _ => kk _ _ _ _ _ _ (zs_J_mono (zs_J_restart hJ) (by omega)) hPb hPm hS) (fun h => absurd rfl h)
end ZLW
