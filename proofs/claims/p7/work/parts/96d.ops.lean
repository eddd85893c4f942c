/-! by hand: the law, op by op (printed by wip/e2/pxgen.py) -/
set_option maxHeartbeats 4000000 in
theorem lo_op0 {xs : Nat → Int32} {L : Nat} (hL : L ≤ 3072) {i : Nat} (hi : i + 6 ≤ L) {lv : List (Nat × pv)} (l0 : px_lg lv 0 = some (pvR 1000)) (l1 : px_lg lv 1 = some (pvR 0)) (l2 : px_lg lv 2 = some (pvR 196)) (l3 : px_lg lv 3 = some (oI (i : Int))) {g : pH} (hG : g_I eG g) (hx : xL g) {P : Option pv × pH → Prop} (hC : ∀ g1 : pH, g_I eG g1 → xL g1 → u_X (some (xs, L)) 100 276 1313 lv [] g1 P) : u_X (some (xs, L)) 100 276 188 lv [] g P := by
  refine u_0 qL_188 rfl (ld_a l1) ?_
  refine u_0 qL_189 rfl (ld_a l0) ?_
  refine u_0 qL_190 rfl (ld_i l3) ?_
  refine u_0 qL_191 rfl rfl ?_
  refine u_0 qL_192 rfl pu_add ?_
  refine u_0 qL_193 rfl (pq_sa hL ⟨by omega, by omega⟩) ?_
  refine u_0 qL_194 rfl (ld_a l0) ?_
  refine u_0 qL_195 rfl (ld_i l3) ?_
  refine u_0 qL_196 rfl rfl ?_
  refine u_0 qL_197 rfl pu_add ?_
  refine u_0 qL_198 rfl (pq_sa hL ⟨by omega, by omega⟩) ?_
  refine u_0 qL_199 rfl (ld_a l0) ?_
  refine u_0 qL_200 rfl (ld_i l3) ?_
  refine u_0 qL_201 rfl rfl ?_
  refine u_0 qL_202 rfl pu_add ?_
  refine u_0 qL_203 rfl (pq_sa hL ⟨by omega, by omega⟩) ?_
  refine u_0 qL_204 rfl (ld_a l0) ?_
  refine u_0 qL_205 rfl (ld_i l3) ?_
  refine u_0 qL_206 rfl rfl ?_
  refine u_0 qL_207 rfl pu_add ?_
  refine u_0 qL_208 rfl (pq_sa hL ⟨by omega, by omega⟩) ?_
  refine u_0 qL_209 rfl (ld_a l0) ?_
  refine u_0 qL_210 rfl (ld_i l3) ?_
  refine u_0 qL_211 rfl rfl ?_
  refine u_0 qL_212 rfl pu_add ?_
  refine u_0 qL_213 rfl (pq_sa hL ⟨by omega, by omega⟩) ?_
  refine u_3 qL_214 rfl (ar := ([pvR 0, .inl (xs ((i : Int) + 1).toNat), .inl (xs ((i : Int) + 2).toNat), .inl (xs ((i : Int) + 3).toNat), .inl (xs ((i : Int) + 4).toNat), .inl (xs ((i : Int) + 5).toNat)], [])) (pcal_w (as := [.inl (xs ((i : Int) + 5).toNat), .inl (xs ((i : Int) + 4).toNat), .inl (xs ((i : Int) + 3).toNat), .inl (xs ((i : Int) + 2).toNat), .inl (xs ((i : Int) + 1).toNat)]) rfl rfl rfl el_0) ⟨by decide, Nat.le_of_ble_eq_true rfl, Nat.le_of_ble_eq_true rfl, rfl⟩ ?_
  refine kc_go (k := kk_0) in_k0 rfl (by decide) hG hx (vs := [pvR 0, .inl (xs ((i : Int) + 1).toNat), .inl (xs ((i : Int) + 2).toNat), .inl (xs ((i : Int) + 3).toNat), .inl (xs ((i : Int) + 4).toNat), .inl (xs ((i : Int) + 5).toNat)]) (xs := [cv (pvR 0), ((xs ((i : Int) + 1).toNat)).toInt, ((xs ((i : Int) + 2).toNat)).toInt, ((xs ((i : Int) + 3).toNat)).toInt, ((xs ((i : Int) + 4).toNat)).toInt, ((xs ((i : Int) + 5).toNat)).toInt]) ⟨by decide, ⟨⟨pvR 0, rfl, rfl, rfl, ok_0⟩, ⟨.inl (xs ((i : Int) + 1).toNat), rfl, rfl, rfl, ok_full32 _⟩, ⟨.inl (xs ((i : Int) + 2).toNat), rfl, rfl, rfl, ok_full32 _⟩, ⟨.inl (xs ((i : Int) + 3).toNat), rfl, rfl, rfl, ok_full32 _⟩, ⟨.inl (xs ((i : Int) + 4).toNat), rfl, rfl, rfl, ok_full32 _⟩, ⟨.inl (xs ((i : Int) + 5).toNat), rfl, rfl, rfl, ok_full32 _⟩, trivial⟩, trivial, fun c hc => by cases hc⟩ rfl (n := 0) (by decide +kernel) (fun v1 g1 t1 G1 X1 M1 => ?_)
  obtain ⟨r1, rfl⟩ := ct_0 t1
  show u_X (some (xs, L)) 100 276 217 lv [.inl r1] g1 P
  refine u_0 qL_217 rfl rfl ?_
  show u_X (some (xs, L)) 100 276 218 lv [] g1 P
  refine u_0 qL_218 rfl (ld_a l2) ?_
  refine u_0 qL_219 rfl (ld_a l0) ?_
  refine u_0 qL_220 rfl (ld_i l3) ?_
  refine u_0 qL_221 rfl rfl ?_
  refine u_0 qL_222 rfl pu_add ?_
  refine u_0 qL_223 rfl (pq_sa hL ⟨by omega, by omega⟩) ?_
  refine u_0 qL_224 rfl (ld_a l0) ?_
  refine u_0 qL_225 rfl (ld_i l3) ?_
  refine u_0 qL_226 rfl rfl ?_
  refine u_0 qL_227 rfl pu_add ?_
  refine u_0 qL_228 rfl (pq_sa hL ⟨by omega, by omega⟩) ?_
  refine u_0 qL_229 rfl (ld_a l0) ?_
  refine u_0 qL_230 rfl (ld_i l3) ?_
  refine u_0 qL_231 rfl rfl ?_
  refine u_0 qL_232 rfl pu_add ?_
  refine u_0 qL_233 rfl (pq_sa hL ⟨by omega, by omega⟩) ?_
  refine u_0 qL_234 rfl (ld_a l0) ?_
  refine u_0 qL_235 rfl (ld_i l3) ?_
  refine u_0 qL_236 rfl rfl ?_
  refine u_0 qL_237 rfl pu_add ?_
  refine u_0 qL_238 rfl (pq_sa hL ⟨by omega, by omega⟩) ?_
  refine u_0 qL_239 rfl (ld_a l0) ?_
  refine u_0 qL_240 rfl (ld_i l3) ?_
  refine u_0 qL_241 rfl rfl ?_
  refine u_0 qL_242 rfl pu_add ?_
  refine u_0 qL_243 rfl (pq_sa hL ⟨by omega, by omega⟩) ?_
  refine u_3 qL_244 rfl (ar := ([pvR 196, .inl (xs ((i : Int) + 1).toNat), .inl (xs ((i : Int) + 2).toNat), .inl (xs ((i : Int) + 3).toNat), .inl (xs ((i : Int) + 4).toNat), .inl (xs ((i : Int) + 5).toNat)], [])) (pcal_w (as := [.inl (xs ((i : Int) + 5).toNat), .inl (xs ((i : Int) + 4).toNat), .inl (xs ((i : Int) + 3).toNat), .inl (xs ((i : Int) + 2).toNat), .inl (xs ((i : Int) + 1).toNat)]) rfl rfl rfl el_196) ⟨by decide, Nat.le_of_ble_eq_true rfl, Nat.le_of_ble_eq_true rfl, rfl⟩ ?_
  refine kc_go (k := kk_1) in_k1 rfl (by decide) G1 X1 (vs := [pvR 196, .inl (xs ((i : Int) + 1).toNat), .inl (xs ((i : Int) + 2).toNat), .inl (xs ((i : Int) + 3).toNat), .inl (xs ((i : Int) + 4).toNat), .inl (xs ((i : Int) + 5).toNat)]) (xs := [cv (pvR 196), ((xs ((i : Int) + 1).toNat)).toInt, ((xs ((i : Int) + 2).toNat)).toInt, ((xs ((i : Int) + 3).toNat)).toInt, ((xs ((i : Int) + 4).toNat)).toInt, ((xs ((i : Int) + 5).toNat)).toInt]) ⟨by decide, ⟨⟨pvR 196, rfl, rfl, rfl, ok_this⟩, ⟨.inl (xs ((i : Int) + 1).toNat), rfl, rfl, rfl, ok_full32 _⟩, ⟨.inl (xs ((i : Int) + 2).toNat), rfl, rfl, rfl, ok_full32 _⟩, ⟨.inl (xs ((i : Int) + 3).toNat), rfl, rfl, rfl, ok_full32 _⟩, ⟨.inl (xs ((i : Int) + 4).toNat), rfl, rfl, rfl, ok_full32 _⟩, ⟨.inl (xs ((i : Int) + 5).toNat), rfl, rfl, rfl, ok_full32 _⟩, trivial⟩, trivial, fun c hc => by cases hc⟩ rfl (n := 0) (by decide +kernel) (fun v2 g2 t2 G2 X2 M2 => ?_)
  obtain ⟨r2, rfl⟩ := ct_0 t2
  show u_X (some (xs, L)) 100 276 247 lv [.inl r2] g2 P
  refine u_0 qL_247 rfl rfl ?_
  show u_X (some (xs, L)) 100 276 248 lv [] g2 P
  refine u_1 qL_248 rfl (pb_goto (pc := 248) (by decide)) ?_
  show u_X (some (xs, L)) 100 276 1313 lv [] g2 P
  exact hC _ G2 X2
set_option maxHeartbeats 4000000 in
theorem lo_op1 {xs : Nat → Int32} {L : Nat} (hL : L ≤ 3072) {i : Nat} (hi : i + 6 ≤ L) {lv : List (Nat × pv)} (l0 : px_lg lv 0 = some (pvR 1000)) (l1 : px_lg lv 1 = some (pvR 0)) (l2 : px_lg lv 2 = some (pvR 196)) (l3 : px_lg lv 3 = some (oI (i : Int))) {g : pH} (hG : g_I eG g) (hx : xL g) {P : Option pv × pH → Prop} (hC : ∀ g1 : pH, g_I eG g1 → xL g1 → u_X (some (xs, L)) 100 276 1313 lv [] g1 P) : u_X (some (xs, L)) 100 276 251 lv [] g P := by
  refine u_0 qL_251 rfl (ld_a l1) ?_
  refine u_0 qL_252 rfl (ld_a l0) ?_
  refine u_0 qL_253 rfl (ld_i l3) ?_
  refine u_0 qL_254 rfl rfl ?_
  refine u_0 qL_255 rfl pu_add ?_
  refine u_0 qL_256 rfl (pq_sa hL ⟨by omega, by omega⟩) ?_
  refine u_0 qL_257 rfl (ld_a l0) ?_
  refine u_0 qL_258 rfl (ld_i l3) ?_
  refine u_0 qL_259 rfl rfl ?_
  refine u_0 qL_260 rfl pu_add ?_
  refine u_0 qL_261 rfl (pq_sa hL ⟨by omega, by omega⟩) ?_
  refine u_0 qL_262 rfl (ld_a l0) ?_
  refine u_0 qL_263 rfl (ld_i l3) ?_
  refine u_0 qL_264 rfl rfl ?_
  refine u_0 qL_265 rfl pu_add ?_
  refine u_0 qL_266 rfl (pq_sa hL ⟨by omega, by omega⟩) ?_
  refine u_0 qL_267 rfl (ld_a l0) ?_
  refine u_0 qL_268 rfl (ld_i l3) ?_
  refine u_0 qL_269 rfl rfl ?_
  refine u_0 qL_270 rfl pu_add ?_
  refine u_0 qL_271 rfl (pq_sa hL ⟨by omega, by omega⟩) ?_
  refine u_3 qL_272 rfl (ar := ([pvR 0, .inl (xs ((i : Int) + 1).toNat), .inl (xs ((i : Int) + 2).toNat), .inl (xs ((i : Int) + 3).toNat), .inl (xs ((i : Int) + 4).toNat)], [])) (pcal_w (as := [.inl (xs ((i : Int) + 4).toNat), .inl (xs ((i : Int) + 3).toNat), .inl (xs ((i : Int) + 2).toNat), .inl (xs ((i : Int) + 1).toNat)]) rfl rfl rfl el_0) ⟨by decide, Nat.le_of_ble_eq_true rfl, Nat.le_of_ble_eq_true rfl, rfl⟩ ?_
  refine kc_go (k := kk_2) in_k2 rfl (by decide) hG hx (vs := [pvR 0, .inl (xs ((i : Int) + 1).toNat), .inl (xs ((i : Int) + 2).toNat), .inl (xs ((i : Int) + 3).toNat), .inl (xs ((i : Int) + 4).toNat)]) (xs := [cv (pvR 0), ((xs ((i : Int) + 1).toNat)).toInt, ((xs ((i : Int) + 2).toNat)).toInt, ((xs ((i : Int) + 3).toNat)).toInt, ((xs ((i : Int) + 4).toNat)).toInt]) ⟨by decide, ⟨⟨pvR 0, rfl, rfl, rfl, ok_0⟩, ⟨.inl (xs ((i : Int) + 1).toNat), rfl, rfl, rfl, ok_full32 _⟩, ⟨.inl (xs ((i : Int) + 2).toNat), rfl, rfl, rfl, ok_full32 _⟩, ⟨.inl (xs ((i : Int) + 3).toNat), rfl, rfl, rfl, ok_full32 _⟩, ⟨.inl (xs ((i : Int) + 4).toNat), rfl, rfl, rfl, ok_full32 _⟩, trivial⟩, trivial, fun c hc => by cases hc⟩ rfl (n := 0) (by decide +kernel) (fun v1 g1 t1 G1 X1 M1 => ?_)
  obtain ⟨r1, rfl⟩ := ct_0 t1
  show u_X (some (xs, L)) 100 276 275 lv [.inl r1] g1 P
  refine u_0 qL_275 rfl rfl ?_
  show u_X (some (xs, L)) 100 276 276 lv [] g1 P
  refine u_0 qL_276 rfl (ld_a l2) ?_
  refine u_0 qL_277 rfl (ld_a l0) ?_
  refine u_0 qL_278 rfl (ld_i l3) ?_
  refine u_0 qL_279 rfl rfl ?_
  refine u_0 qL_280 rfl pu_add ?_
  refine u_0 qL_281 rfl (pq_sa hL ⟨by omega, by omega⟩) ?_
  refine u_0 qL_282 rfl (ld_a l0) ?_
  refine u_0 qL_283 rfl (ld_i l3) ?_
  refine u_0 qL_284 rfl rfl ?_
  refine u_0 qL_285 rfl pu_add ?_
  refine u_0 qL_286 rfl (pq_sa hL ⟨by omega, by omega⟩) ?_
  refine u_0 qL_287 rfl (ld_a l0) ?_
  refine u_0 qL_288 rfl (ld_i l3) ?_
  refine u_0 qL_289 rfl rfl ?_
  refine u_0 qL_290 rfl pu_add ?_
  refine u_0 qL_291 rfl (pq_sa hL ⟨by omega, by omega⟩) ?_
  refine u_0 qL_292 rfl (ld_a l0) ?_
  refine u_0 qL_293 rfl (ld_i l3) ?_
  refine u_0 qL_294 rfl rfl ?_
  refine u_0 qL_295 rfl pu_add ?_
  refine u_0 qL_296 rfl (pq_sa hL ⟨by omega, by omega⟩) ?_
  refine u_3 qL_297 rfl (ar := ([pvR 196, .inl (xs ((i : Int) + 1).toNat), .inl (xs ((i : Int) + 2).toNat), .inl (xs ((i : Int) + 3).toNat), .inl (xs ((i : Int) + 4).toNat)], [])) (pcal_w (as := [.inl (xs ((i : Int) + 4).toNat), .inl (xs ((i : Int) + 3).toNat), .inl (xs ((i : Int) + 2).toNat), .inl (xs ((i : Int) + 1).toNat)]) rfl rfl rfl el_196) ⟨by decide, Nat.le_of_ble_eq_true rfl, Nat.le_of_ble_eq_true rfl, rfl⟩ ?_
  refine kc_go (k := kk_3) in_k3 rfl (by decide) G1 X1 (vs := [pvR 196, .inl (xs ((i : Int) + 1).toNat), .inl (xs ((i : Int) + 2).toNat), .inl (xs ((i : Int) + 3).toNat), .inl (xs ((i : Int) + 4).toNat)]) (xs := [cv (pvR 196), ((xs ((i : Int) + 1).toNat)).toInt, ((xs ((i : Int) + 2).toNat)).toInt, ((xs ((i : Int) + 3).toNat)).toInt, ((xs ((i : Int) + 4).toNat)).toInt]) ⟨by decide, ⟨⟨pvR 196, rfl, rfl, rfl, ok_this⟩, ⟨.inl (xs ((i : Int) + 1).toNat), rfl, rfl, rfl, ok_full32 _⟩, ⟨.inl (xs ((i : Int) + 2).toNat), rfl, rfl, rfl, ok_full32 _⟩, ⟨.inl (xs ((i : Int) + 3).toNat), rfl, rfl, rfl, ok_full32 _⟩, ⟨.inl (xs ((i : Int) + 4).toNat), rfl, rfl, rfl, ok_full32 _⟩, trivial⟩, trivial, fun c hc => by cases hc⟩ rfl (n := 0) (by decide +kernel) (fun v2 g2 t2 G2 X2 M2 => ?_)
  obtain ⟨r2, rfl⟩ := ct_0 t2
  show u_X (some (xs, L)) 100 276 300 lv [.inl r2] g2 P
  refine u_0 qL_300 rfl rfl ?_
  show u_X (some (xs, L)) 100 276 301 lv [] g2 P
  refine u_1 qL_301 rfl (pb_goto (pc := 301) (by decide)) ?_
  show u_X (some (xs, L)) 100 276 1313 lv [] g2 P
  exact hC _ G2 X2
set_option maxHeartbeats 4000000 in
theorem lo_op2 {xs : Nat → Int32} {L : Nat} (hL : L ≤ 3072) {i : Nat} (hi : i + 6 ≤ L) {lv : List (Nat × pv)} (l0 : px_lg lv 0 = some (pvR 1000)) (l1 : px_lg lv 1 = some (pvR 0)) (l2 : px_lg lv 2 = some (pvR 196)) (l3 : px_lg lv 3 = some (oI (i : Int))) {g : pH} (hG : g_I eG g) (hx : xL g) {P : Option pv × pH → Prop} (hC : ∀ g1 : pH, g_I eG g1 → xL g1 → u_X (some (xs, L)) 100 276 1313 lv [] g1 P) : u_X (some (xs, L)) 100 276 304 lv [] g P := by
  refine u_0 qL_304 rfl (ld_a l1) ?_
  refine u_0 qL_305 rfl (ld_a l0) ?_
  refine u_0 qL_306 rfl (ld_i l3) ?_
  refine u_0 qL_307 rfl rfl ?_
  refine u_0 qL_308 rfl pu_add ?_
  refine u_0 qL_309 rfl (pq_sa hL ⟨by omega, by omega⟩) ?_
  refine u_0 qL_310 rfl (ld_a l0) ?_
  refine u_0 qL_311 rfl (ld_i l3) ?_
  refine u_0 qL_312 rfl rfl ?_
  refine u_0 qL_313 rfl pu_add ?_
  refine u_0 qL_314 rfl (pq_sa hL ⟨by omega, by omega⟩) ?_
  refine u_3 qL_315 rfl (ar := ([pvR 0, .inl (xs ((i : Int) + 1).toNat), .inl (xs ((i : Int) + 2).toNat)], [])) (pcal_w (as := [.inl (xs ((i : Int) + 2).toNat), .inl (xs ((i : Int) + 1).toNat)]) rfl rfl rfl el_0) ⟨by decide, Nat.le_of_ble_eq_true rfl, Nat.le_of_ble_eq_true rfl, rfl⟩ ?_
  refine kc_go (k := kk_4) in_k4 rfl (by decide) hG hx (vs := [pvR 0, .inl (xs ((i : Int) + 1).toNat), .inl (xs ((i : Int) + 2).toNat)]) (xs := [cv (pvR 0), ((xs ((i : Int) + 1).toNat)).toInt, ((xs ((i : Int) + 2).toNat)).toInt]) ⟨by decide, ⟨⟨pvR 0, rfl, rfl, rfl, ok_0⟩, ⟨.inl (xs ((i : Int) + 1).toNat), rfl, rfl, rfl, ok_full32 _⟩, ⟨.inl (xs ((i : Int) + 2).toNat), rfl, rfl, rfl, ok_full32 _⟩, trivial⟩, trivial, fun c hc => by cases hc⟩ rfl (n := 0) (by decide +kernel) (fun v1 g1 t1 G1 X1 M1 => ?_)
  obtain ⟨r1, rfl⟩ := ct_0 t1
  show u_X (some (xs, L)) 100 276 318 lv [.inl r1] g1 P
  refine u_0 qL_318 rfl rfl ?_
  show u_X (some (xs, L)) 100 276 319 lv [] g1 P
  refine u_0 qL_319 rfl (ld_a l2) ?_
  refine u_0 qL_320 rfl (ld_a l0) ?_
  refine u_0 qL_321 rfl (ld_i l3) ?_
  refine u_0 qL_322 rfl rfl ?_
  refine u_0 qL_323 rfl pu_add ?_
  refine u_0 qL_324 rfl (pq_sa hL ⟨by omega, by omega⟩) ?_
  refine u_0 qL_325 rfl (ld_a l0) ?_
  refine u_0 qL_326 rfl (ld_i l3) ?_
  refine u_0 qL_327 rfl rfl ?_
  refine u_0 qL_328 rfl pu_add ?_
  refine u_0 qL_329 rfl (pq_sa hL ⟨by omega, by omega⟩) ?_
  refine u_3 qL_330 rfl (ar := ([pvR 196, .inl (xs ((i : Int) + 1).toNat), .inl (xs ((i : Int) + 2).toNat)], [])) (pcal_w (as := [.inl (xs ((i : Int) + 2).toNat), .inl (xs ((i : Int) + 1).toNat)]) rfl rfl rfl el_196) ⟨by decide, Nat.le_of_ble_eq_true rfl, Nat.le_of_ble_eq_true rfl, rfl⟩ ?_
  refine kc_go (k := kk_5) in_k5 rfl (by decide) G1 X1 (vs := [pvR 196, .inl (xs ((i : Int) + 1).toNat), .inl (xs ((i : Int) + 2).toNat)]) (xs := [cv (pvR 196), ((xs ((i : Int) + 1).toNat)).toInt, ((xs ((i : Int) + 2).toNat)).toInt]) ⟨by decide, ⟨⟨pvR 196, rfl, rfl, rfl, ok_this⟩, ⟨.inl (xs ((i : Int) + 1).toNat), rfl, rfl, rfl, ok_full32 _⟩, ⟨.inl (xs ((i : Int) + 2).toNat), rfl, rfl, rfl, ok_full32 _⟩, trivial⟩, trivial, fun c hc => by cases hc⟩ rfl (n := 0) (by decide +kernel) (fun v2 g2 t2 G2 X2 M2 => ?_)
  obtain ⟨r2, rfl⟩ := ct_0 t2
  show u_X (some (xs, L)) 100 276 333 lv [.inl r2] g2 P
  refine u_0 qL_333 rfl rfl ?_
  show u_X (some (xs, L)) 100 276 334 lv [] g2 P
  refine u_1 qL_334 rfl (pb_goto (pc := 334) (by decide)) ?_
  show u_X (some (xs, L)) 100 276 1313 lv [] g2 P
  exact hC _ G2 X2
set_option maxHeartbeats 4000000 in
theorem lo_op3 {xs : Nat → Int32} {L : Nat} (hL : L ≤ 3072) {i : Nat} (hi : i + 6 ≤ L) {lv : List (Nat × pv)} (l0 : px_lg lv 0 = some (pvR 1000)) (l1 : px_lg lv 1 = some (pvR 0)) (l2 : px_lg lv 2 = some (pvR 196)) (l3 : px_lg lv 3 = some (oI (i : Int))) {g : pH} (hG : g_I eG g) (hx : xL g) {P : Option pv × pH → Prop} (hC : ∀ g1 : pH, g_I eG g1 → xL g1 → u_X (some (xs, L)) 100 276 1313 lv [] g1 P) : u_X (some (xs, L)) 100 276 337 lv [] g P := by
  refine u_0 qL_337 rfl (ld_a l1) ?_
  refine u_0 qL_338 rfl (ld_a l0) ?_
  refine u_0 qL_339 rfl (ld_i l3) ?_
  refine u_0 qL_340 rfl rfl ?_
  refine u_0 qL_341 rfl pu_add ?_
  refine u_0 qL_342 rfl (pq_sa hL ⟨by omega, by omega⟩) ?_
  refine u_0 qL_343 rfl (ld_a l0) ?_
  refine u_0 qL_344 rfl (ld_i l3) ?_
  refine u_0 qL_345 rfl rfl ?_
  refine u_0 qL_346 rfl pu_add ?_
  refine u_0 qL_347 rfl (pq_sa hL ⟨by omega, by omega⟩) ?_
  refine u_3 qL_348 rfl (ar := ([pvR 0, .inl (xs ((i : Int) + 1).toNat), .inl (xs ((i : Int) + 2).toNat)], [])) (pcal_w (as := [.inl (xs ((i : Int) + 2).toNat), .inl (xs ((i : Int) + 1).toNat)]) rfl rfl rfl el_0) ⟨by decide, Nat.le_of_ble_eq_true rfl, Nat.le_of_ble_eq_true rfl, rfl⟩ ?_
  refine kc_go (k := kk_6) in_k6 rfl (by decide) hG hx (vs := [pvR 0, .inl (xs ((i : Int) + 1).toNat), .inl (xs ((i : Int) + 2).toNat)]) (xs := [cv (pvR 0), ((xs ((i : Int) + 1).toNat)).toInt, ((xs ((i : Int) + 2).toNat)).toInt]) ⟨by decide, ⟨⟨pvR 0, rfl, rfl, rfl, ok_0⟩, ⟨.inl (xs ((i : Int) + 1).toNat), rfl, rfl, rfl, ok_full32 _⟩, ⟨.inl (xs ((i : Int) + 2).toNat), rfl, rfl, rfl, ok_full32 _⟩, trivial⟩, trivial, fun c hc => by cases hc⟩ rfl (n := 0) (by decide +kernel) (fun v1 g1 t1 G1 X1 M1 => ?_)
  obtain ⟨r1, rfl⟩ := ct_0 t1
  show u_X (some (xs, L)) 100 276 351 lv [.inl r1] g1 P
  refine u_0 qL_351 rfl rfl ?_
  show u_X (some (xs, L)) 100 276 352 lv [] g1 P
  refine u_0 qL_352 rfl (ld_a l2) ?_
  refine u_0 qL_353 rfl (ld_a l0) ?_
  refine u_0 qL_354 rfl (ld_i l3) ?_
  refine u_0 qL_355 rfl rfl ?_
  refine u_0 qL_356 rfl pu_add ?_
  refine u_0 qL_357 rfl (pq_sa hL ⟨by omega, by omega⟩) ?_
  refine u_0 qL_358 rfl (ld_a l0) ?_
  refine u_0 qL_359 rfl (ld_i l3) ?_
  refine u_0 qL_360 rfl rfl ?_
  refine u_0 qL_361 rfl pu_add ?_
  refine u_0 qL_362 rfl (pq_sa hL ⟨by omega, by omega⟩) ?_
  refine u_3 qL_363 rfl (ar := ([pvR 196, .inl (xs ((i : Int) + 1).toNat), .inl (xs ((i : Int) + 2).toNat)], [])) (pcal_w (as := [.inl (xs ((i : Int) + 2).toNat), .inl (xs ((i : Int) + 1).toNat)]) rfl rfl rfl el_196) ⟨by decide, Nat.le_of_ble_eq_true rfl, Nat.le_of_ble_eq_true rfl, rfl⟩ ?_
  refine kc_go (k := kk_7) in_k7 rfl (by decide) G1 X1 (vs := [pvR 196, .inl (xs ((i : Int) + 1).toNat), .inl (xs ((i : Int) + 2).toNat)]) (xs := [cv (pvR 196), ((xs ((i : Int) + 1).toNat)).toInt, ((xs ((i : Int) + 2).toNat)).toInt]) ⟨by decide, ⟨⟨pvR 196, rfl, rfl, rfl, ok_this⟩, ⟨.inl (xs ((i : Int) + 1).toNat), rfl, rfl, rfl, ok_full32 _⟩, ⟨.inl (xs ((i : Int) + 2).toNat), rfl, rfl, rfl, ok_full32 _⟩, trivial⟩, trivial, fun c hc => by cases hc⟩ rfl (n := 0) (by decide +kernel) (fun v2 g2 t2 G2 X2 M2 => ?_)
  obtain ⟨r2, rfl⟩ := ct_0 t2
  show u_X (some (xs, L)) 100 276 366 lv [.inl r2] g2 P
  refine u_0 qL_366 rfl rfl ?_
  show u_X (some (xs, L)) 100 276 367 lv [] g2 P
  refine u_1 qL_367 rfl (pb_goto (pc := 367) (by decide)) ?_
  show u_X (some (xs, L)) 100 276 1313 lv [] g2 P
  exact hC _ G2 X2
set_option maxHeartbeats 4000000 in
theorem lo_op4 {xs : Nat → Int32} {L : Nat} (hL : L ≤ 3072) {i : Nat} (hi : i + 6 ≤ L) {lv : List (Nat × pv)} (l0 : px_lg lv 0 = some (pvR 1000)) (l1 : px_lg lv 1 = some (pvR 0)) (l2 : px_lg lv 2 = some (pvR 196)) (l3 : px_lg lv 3 = some (oI (i : Int))) {g : pH} (hG : g_I eG g) (hx : xL g) {P : Option pv × pH → Prop} (hC : ∀ g1 : pH, g_I eG g1 → xL g1 → u_X (some (xs, L)) 100 276 1313 lv [] g1 P) : u_X (some (xs, L)) 100 276 370 lv [] g P := by
  refine u_0 qL_370 rfl (ld_a l1) ?_
  refine u_0 qL_371 rfl (ld_a l0) ?_
  refine u_0 qL_372 rfl (ld_i l3) ?_
  refine u_0 qL_373 rfl rfl ?_
  refine u_0 qL_374 rfl pu_add ?_
  refine u_0 qL_375 rfl (pq_sa hL ⟨by omega, by omega⟩) ?_
  refine u_3 qL_376 rfl (ar := ([pvR 0, .inl (xs ((i : Int) + 1).toNat)], [])) (pcal_w (as := [.inl (xs ((i : Int) + 1).toNat)]) rfl rfl rfl el_0) ⟨by decide, Nat.le_of_ble_eq_true rfl, Nat.le_of_ble_eq_true rfl, rfl⟩ ?_
  refine kc_go (k := kk_8) in_k8 rfl (by decide) hG hx (vs := [pvR 0, .inl (xs ((i : Int) + 1).toNat)]) (xs := [cv (pvR 0), ((xs ((i : Int) + 1).toNat)).toInt]) ⟨by decide, ⟨⟨pvR 0, rfl, rfl, rfl, ok_0⟩, ⟨.inl (xs ((i : Int) + 1).toNat), rfl, rfl, rfl, ok_full32 _⟩, trivial⟩, trivial, fun c hc => by cases hc⟩ rfl (n := 0) (by decide +kernel) (fun v1 g1 t1 G1 X1 M1 => ?_)
  obtain ⟨r1, rfl⟩ := ct_0 t1
  show u_X (some (xs, L)) 100 276 379 lv [.inl r1] g1 P
  refine u_0 qL_379 rfl rfl ?_
  show u_X (some (xs, L)) 100 276 380 lv [] g1 P
  refine u_0 qL_380 rfl (ld_a l2) ?_
  refine u_0 qL_381 rfl (ld_a l0) ?_
  refine u_0 qL_382 rfl (ld_i l3) ?_
  refine u_0 qL_383 rfl rfl ?_
  refine u_0 qL_384 rfl pu_add ?_
  refine u_0 qL_385 rfl (pq_sa hL ⟨by omega, by omega⟩) ?_
  refine u_3 qL_386 rfl (ar := ([pvR 196, .inl (xs ((i : Int) + 1).toNat)], [])) (pcal_w (as := [.inl (xs ((i : Int) + 1).toNat)]) rfl rfl rfl el_196) ⟨by decide, Nat.le_of_ble_eq_true rfl, Nat.le_of_ble_eq_true rfl, rfl⟩ ?_
  refine kc_go (k := kk_9) in_k9 rfl (by decide) G1 X1 (vs := [pvR 196, .inl (xs ((i : Int) + 1).toNat)]) (xs := [cv (pvR 196), ((xs ((i : Int) + 1).toNat)).toInt]) ⟨by decide, ⟨⟨pvR 196, rfl, rfl, rfl, ok_this⟩, ⟨.inl (xs ((i : Int) + 1).toNat), rfl, rfl, rfl, ok_full32 _⟩, trivial⟩, trivial, fun c hc => by cases hc⟩ rfl (n := 0) (by decide +kernel) (fun v2 g2 t2 G2 X2 M2 => ?_)
  obtain ⟨r2, rfl⟩ := ct_0 t2
  show u_X (some (xs, L)) 100 276 389 lv [.inl r2] g2 P
  refine u_0 qL_389 rfl rfl ?_
  show u_X (some (xs, L)) 100 276 390 lv [] g2 P
  refine u_1 qL_390 rfl (pb_goto (pc := 390) (by decide)) ?_
  show u_X (some (xs, L)) 100 276 1313 lv [] g2 P
  exact hC _ G2 X2
set_option maxHeartbeats 4000000 in
theorem lo_op5 {xs : Nat → Int32} {L : Nat} (hL : L ≤ 3072) {i : Nat} (hi : i + 6 ≤ L) {lv : List (Nat × pv)} (l0 : px_lg lv 0 = some (pvR 1000)) (l1 : px_lg lv 1 = some (pvR 0)) (l2 : px_lg lv 2 = some (pvR 196)) (l3 : px_lg lv 3 = some (oI (i : Int))) {g : pH} (hG : g_I eG g) (hx : xL g) {P : Option pv × pH → Prop} (hC : ∀ g1 : pH, g_I eG g1 → xL g1 → u_X (some (xs, L)) 100 276 1313 lv [] g1 P) : u_X (some (xs, L)) 100 276 393 lv [] g P := by
  refine u_0 qL_393 rfl (ld_a l1) ?_
  refine u_0 qL_394 rfl (ld_a l0) ?_
  refine u_0 qL_395 rfl (ld_i l3) ?_
  refine u_0 qL_396 rfl rfl ?_
  refine u_0 qL_397 rfl pu_add ?_
  refine u_0 qL_398 rfl (pq_sa hL ⟨by omega, by omega⟩) ?_
  refine u_0 qL_399 rfl (ld_a l0) ?_
  refine u_0 qL_400 rfl (ld_i l3) ?_
  refine u_0 qL_401 rfl rfl ?_
  refine u_0 qL_402 rfl pu_add ?_
  refine u_0 qL_403 rfl (pq_sa hL ⟨by omega, by omega⟩) ?_
  refine u_0 qL_404 rfl (ld_a l0) ?_
  refine u_0 qL_405 rfl (ld_i l3) ?_
  refine u_0 qL_406 rfl rfl ?_
  refine u_0 qL_407 rfl pu_add ?_
  refine u_0 qL_408 rfl (pq_sa hL ⟨by omega, by omega⟩) ?_
  refine u_3 qL_409 rfl (ar := ([pvR 0, .inl (xs ((i : Int) + 1).toNat), .inl (xs ((i : Int) + 2).toNat), .inl (xs ((i : Int) + 3).toNat)], [])) (pcal_w (as := [.inl (xs ((i : Int) + 3).toNat), .inl (xs ((i : Int) + 2).toNat), .inl (xs ((i : Int) + 1).toNat)]) rfl rfl rfl el_0) ⟨by decide, Nat.le_of_ble_eq_true rfl, Nat.le_of_ble_eq_true rfl, rfl⟩ ?_
  refine looker_c hG hx (fun g1 G1 X1 => ?_)
  show u_X (some (xs, L)) 100 276 412 lv [oI (lookerF ((xs ((i : Int) + 1).toNat)) ((xs ((i : Int) + 2).toNat)) ((xs ((i : Int) + 3).toNat)))] g1 P
  refine u_0 qL_412 rfl (ld_a l2) ?_
  refine u_0 qL_413 rfl (ld_a l0) ?_
  refine u_0 qL_414 rfl (ld_i l3) ?_
  refine u_0 qL_415 rfl rfl ?_
  refine u_0 qL_416 rfl pu_add ?_
  refine u_0 qL_417 rfl (pq_sa hL ⟨by omega, by omega⟩) ?_
  refine u_0 qL_418 rfl (ld_a l0) ?_
  refine u_0 qL_419 rfl (ld_i l3) ?_
  refine u_0 qL_420 rfl rfl ?_
  refine u_0 qL_421 rfl pu_add ?_
  refine u_0 qL_422 rfl (pq_sa hL ⟨by omega, by omega⟩) ?_
  refine u_0 qL_423 rfl (ld_a l0) ?_
  refine u_0 qL_424 rfl (ld_i l3) ?_
  refine u_0 qL_425 rfl rfl ?_
  refine u_0 qL_426 rfl pu_add ?_
  refine u_0 qL_427 rfl (pq_sa hL ⟨by omega, by omega⟩) ?_
  refine u_3 qL_428 rfl (ar := ([pvR 196, .inl (xs ((i : Int) + 1).toNat), .inl (xs ((i : Int) + 2).toNat), .inl (xs ((i : Int) + 3).toNat)], [oI (lookerF ((xs ((i : Int) + 1).toNat)) ((xs ((i : Int) + 2).toNat)) ((xs ((i : Int) + 3).toNat)))])) (pcal_w (as := [.inl (xs ((i : Int) + 3).toNat), .inl (xs ((i : Int) + 2).toNat), .inl (xs ((i : Int) + 1).toNat)]) rfl rfl rfl el_196) ⟨by decide, Nat.le_of_ble_eq_true rfl, Nat.le_of_ble_eq_true rfl, rfl⟩ ?_
  refine looker_m G1 X1 (fun g2 G2 X2 => ?_)
  show u_X (some (xs, L)) 100 276 431 lv [oI (lookerF ((xs ((i : Int) + 1).toNat)) ((xs ((i : Int) + 2).toNat)) ((xs ((i : Int) + 3).toNat))), oI (lookerF ((xs ((i : Int) + 1).toNat)) ((xs ((i : Int) + 2).toNat)) ((xs ((i : Int) + 3).toNat)))] g2 P
  refine ub_eq qL_431 (by decide) rfl (hC _ G2 X2)
set_option maxHeartbeats 4000000 in
theorem lo_op6 {xs : Nat → Int32} {L : Nat} (hL : L ≤ 3072) {i : Nat} (hi : i + 6 ≤ L) {lv : List (Nat × pv)} (l0 : px_lg lv 0 = some (pvR 1000)) (l1 : px_lg lv 1 = some (pvR 0)) (l2 : px_lg lv 2 = some (pvR 196)) (l3 : px_lg lv 3 = some (oI (i : Int))) {g : pH} (hG : g_I eG g) (hx : xL g) {P : Option pv × pH → Prop} (hC : ∀ g1 : pH, g_I eG g1 → xL g1 → u_X (some (xs, L)) 100 276 1313 lv [] g1 P) : u_X (some (xs, L)) 100 276 436 lv [] g P := by
  refine u_0 qL_436 rfl (ld_a l1) ?_
  refine u_0 qL_437 rfl (ld_a l0) ?_
  refine u_0 qL_438 rfl (ld_i l3) ?_
  refine u_0 qL_439 rfl rfl ?_
  refine u_0 qL_440 rfl pu_add ?_
  refine u_0 qL_441 rfl (pq_sa hL ⟨by omega, by omega⟩) ?_
  refine u_3 qL_442 rfl (ar := ([pvR 0, .inl (xs ((i : Int) + 1).toNat)], [])) (pcal_w (as := [.inl (xs ((i : Int) + 1).toNat)]) rfl rfl rfl el_0) ⟨by decide, Nat.le_of_ble_eq_true rfl, Nat.le_of_ble_eq_true rfl, rfl⟩ ?_
  refine kc_go (k := kk_12) in_k12 rfl (by decide) hG hx (vs := [pvR 0, .inl (xs ((i : Int) + 1).toNat)]) (xs := [cv (pvR 0), ((xs ((i : Int) + 1).toNat)).toInt]) ⟨by decide, ⟨⟨pvR 0, rfl, rfl, rfl, ok_0⟩, ⟨.inl (xs ((i : Int) + 1).toNat), rfl, rfl, rfl, ok_full32 _⟩, trivial⟩, trivial, fun c hc => by cases hc⟩ rfl (n := 0) (by decide +kernel) (fun v1 g1 t1 G1 X1 M1 => ?_)
  obtain ⟨r1, rfl⟩ := ct_0 t1
  show u_X (some (xs, L)) 100 276 445 lv [.inl r1] g1 P
  refine u_0 qL_445 rfl rfl ?_
  show u_X (some (xs, L)) 100 276 446 lv [] g1 P
  refine u_0 qL_446 rfl (ld_a l2) ?_
  refine u_0 qL_447 rfl (ld_a l0) ?_
  refine u_0 qL_448 rfl (ld_i l3) ?_
  refine u_0 qL_449 rfl rfl ?_
  refine u_0 qL_450 rfl pu_add ?_
  refine u_0 qL_451 rfl (pq_sa hL ⟨by omega, by omega⟩) ?_
  refine u_3 qL_452 rfl (ar := ([pvR 196, .inl (xs ((i : Int) + 1).toNat)], [])) (pcal_w (as := [.inl (xs ((i : Int) + 1).toNat)]) rfl rfl rfl el_196) ⟨by decide, Nat.le_of_ble_eq_true rfl, Nat.le_of_ble_eq_true rfl, rfl⟩ ?_
  refine kc_go (k := kk_13) in_k13 rfl (by decide) G1 X1 (vs := [pvR 196, .inl (xs ((i : Int) + 1).toNat)]) (xs := [cv (pvR 196), ((xs ((i : Int) + 1).toNat)).toInt]) ⟨by decide, ⟨⟨pvR 196, rfl, rfl, rfl, ok_this⟩, ⟨.inl (xs ((i : Int) + 1).toNat), rfl, rfl, rfl, ok_full32 _⟩, trivial⟩, trivial, fun c hc => by cases hc⟩ rfl (n := 0) (by decide +kernel) (fun v2 g2 t2 G2 X2 M2 => ?_)
  obtain ⟨r2, rfl⟩ := ct_0 t2
  show u_X (some (xs, L)) 100 276 455 lv [.inl r2] g2 P
  refine u_0 qL_455 rfl rfl ?_
  show u_X (some (xs, L)) 100 276 456 lv [] g2 P
  refine u_1 qL_456 rfl (pb_goto (pc := 456) (by decide)) ?_
  show u_X (some (xs, L)) 100 276 1313 lv [] g2 P
  exact hC _ G2 X2
set_option maxHeartbeats 4000000 in
theorem lo_op7 {xs : Nat → Int32} {L : Nat} (hL : L ≤ 3072) {i : Nat} (hi : i + 6 ≤ L) {lv : List (Nat × pv)} (l0 : px_lg lv 0 = some (pvR 1000)) (l1 : px_lg lv 1 = some (pvR 0)) (l2 : px_lg lv 2 = some (pvR 196)) (l3 : px_lg lv 3 = some (oI (i : Int))) {g : pH} (hG : g_I eG g) (hx : xL g) {P : Option pv × pH → Prop} (hC : ∀ g1 : pH, g_I eG g1 → xL g1 → u_X (some (xs, L)) 100 276 1313 lv [] g1 P) : u_X (some (xs, L)) 100 276 459 lv [] g P := by
  refine u_0 qL_459 rfl (ld_a l1) ?_
  refine u_0 qL_460 rfl (ld_a l0) ?_
  refine u_0 qL_461 rfl (ld_i l3) ?_
  refine u_0 qL_462 rfl rfl ?_
  refine u_0 qL_463 rfl pu_add ?_
  refine u_0 qL_464 rfl (pq_sa hL ⟨by omega, by omega⟩) ?_
  refine u_3 qL_465 rfl (ar := ([pvR 0, .inl (xs ((i : Int) + 1).toNat)], [])) (pcal_w (as := [.inl (xs ((i : Int) + 1).toNat)]) rfl rfl rfl el_0) ⟨by decide, Nat.le_of_ble_eq_true rfl, Nat.le_of_ble_eq_true rfl, rfl⟩ ?_
  refine kc_go (k := kk_20) in_k20 rfl (by decide) hG hx (vs := [pvR 0, .inl (xs ((i : Int) + 1).toNat)]) (xs := [cv (pvR 0), ((xs ((i : Int) + 1).toNat)).toInt]) ⟨by decide, ⟨⟨pvR 0, rfl, rfl, rfl, ok_0⟩, ⟨.inl (xs ((i : Int) + 1).toNat), rfl, rfl, rfl, ok_full32 _⟩, trivial⟩, trivial, fun c hc => by cases hc⟩ rfl (n := 0) (by decide +kernel) (fun v1 g1 t1 G1 X1 M1 => ?_)
  obtain ⟨r1, rfl⟩ := ct_0 t1
  show u_X (some (xs, L)) 100 276 468 lv [.inl r1] g1 P
  refine u_0 qL_468 rfl rfl ?_
  show u_X (some (xs, L)) 100 276 469 lv [] g1 P
  refine u_0 qL_469 rfl (ld_a l2) ?_
  refine u_0 qL_470 rfl (ld_a l0) ?_
  refine u_0 qL_471 rfl (ld_i l3) ?_
  refine u_0 qL_472 rfl rfl ?_
  refine u_0 qL_473 rfl pu_add ?_
  refine u_0 qL_474 rfl (pq_sa hL ⟨by omega, by omega⟩) ?_
  refine u_3 qL_475 rfl (ar := ([pvR 196, .inl (xs ((i : Int) + 1).toNat)], [])) (pcal_w (as := [.inl (xs ((i : Int) + 1).toNat)]) rfl rfl rfl el_196) ⟨by decide, Nat.le_of_ble_eq_true rfl, Nat.le_of_ble_eq_true rfl, rfl⟩ ?_
  refine ty_run (by decide) G1 (n := ((xs ((i : Int) + 1).toNat)).toInt) (i32_b _) (fun g2 z2 J2 => ?_) rfl (congrArg some (oI_r _))
  have X2 := xL_K _ _ _ J2.2 Wt_a.2.2.2.2 X1
  have G2 := J2.1
  show u_X (some (xs, L)) 100 276 478 lv [oI z2] g2 P
  refine u_0 qL_478 rfl rfl ?_
  show u_X (some (xs, L)) 100 276 479 lv [] g2 P
  refine u_1 qL_479 rfl (pb_goto (pc := 479) (by decide)) ?_
  show u_X (some (xs, L)) 100 276 1313 lv [] g2 P
  exact hC _ G2 X2
set_option maxHeartbeats 4000000 in
theorem lo_op8 {xs : Nat → Int32} {L : Nat} (hL : L ≤ 3072) {i : Nat} (hi : i + 6 ≤ L) {lv : List (Nat × pv)} (l0 : px_lg lv 0 = some (pvR 1000)) (l1 : px_lg lv 1 = some (pvR 0)) (l2 : px_lg lv 2 = some (pvR 196)) (l3 : px_lg lv 3 = some (oI (i : Int))) {g : pH} (hG : g_I eG g) (hx : xL g) {P : Option pv × pH → Prop} (hC : ∀ g1 : pH, g_I eG g1 → xL g1 → u_X (some (xs, L)) 100 276 1313 lv [] g1 P) : u_X (some (xs, L)) 100 276 482 lv [] g P := by
  refine u_0 qL_482 rfl (ld_a l1) ?_
  refine u_0 qL_483 rfl (ld_a l0) ?_
  refine u_0 qL_484 rfl (ld_i l3) ?_
  refine u_0 qL_485 rfl rfl ?_
  refine u_0 qL_486 rfl pu_add ?_
  refine u_0 qL_487 rfl (pq_sa hL ⟨by omega, by omega⟩) ?_
  refine u_3 qL_488 rfl (ar := ([pvR 0, .inl (xs ((i : Int) + 1).toNat)], [])) (pcal_w (as := [.inl (xs ((i : Int) + 1).toNat)]) rfl rfl rfl el_0) ⟨by decide, Nat.le_of_ble_eq_true rfl, Nat.le_of_ble_eq_true rfl, rfl⟩ ?_
  refine kc_go (k := kk_23) in_k23 rfl (by decide) hG hx (vs := [pvR 0, .inl (xs ((i : Int) + 1).toNat)]) (xs := [cv (pvR 0), ((xs ((i : Int) + 1).toNat)).toInt]) ⟨by decide, ⟨⟨pvR 0, rfl, rfl, rfl, ok_0⟩, ⟨.inl (xs ((i : Int) + 1).toNat), rfl, rfl, rfl, ok_full32 _⟩, trivial⟩, trivial, fun c hc => by cases hc⟩ rfl (n := 0) (by decide +kernel) (fun v1 g1 t1 G1 X1 M1 => ?_)
  obtain ⟨r1, rfl⟩ := ct_0 t1
  show u_X (some (xs, L)) 100 276 491 lv [.inl r1] g1 P
  refine u_0 qL_491 rfl rfl ?_
  show u_X (some (xs, L)) 100 276 492 lv [] g1 P
  refine u_0 qL_492 rfl (ld_a l2) ?_
  refine u_0 qL_493 rfl (ld_a l0) ?_
  refine u_0 qL_494 rfl (ld_i l3) ?_
  refine u_0 qL_495 rfl rfl ?_
  refine u_0 qL_496 rfl pu_add ?_
  refine u_0 qL_497 rfl (pq_sa hL ⟨by omega, by omega⟩) ?_
  refine u_3 qL_498 rfl (ar := ([pvR 196, .inl (xs ((i : Int) + 1).toNat)], [])) (pcal_w (as := [.inl (xs ((i : Int) + 1).toNat)]) rfl rfl rfl el_196) ⟨by decide, Nat.le_of_ble_eq_true rfl, Nat.le_of_ble_eq_true rfl, rfl⟩ ?_
  refine lw_run (by decide) G1 X1 (n := ((xs ((i : Int) + 1).toNat)).toInt) (i32_b _) (fun g2 z2 J2 X2 => ?_) rfl (congrArg some (oI_r _))
  have G2 := J2.1
  show u_X (some (xs, L)) 100 276 501 lv [oI z2] g2 P
  refine u_0 qL_501 rfl rfl ?_
  show u_X (some (xs, L)) 100 276 502 lv [] g2 P
  refine u_1 qL_502 rfl (pb_goto (pc := 502) (by decide)) ?_
  show u_X (some (xs, L)) 100 276 1313 lv [] g2 P
  exact hC _ G2 X2
set_option maxHeartbeats 4000000 in
theorem lo_op9 {xs : Nat → Int32} {L : Nat} (hL : L ≤ 3072) {i : Nat} (hi : i + 6 ≤ L) {lv : List (Nat × pv)} (l0 : px_lg lv 0 = some (pvR 1000)) (l1 : px_lg lv 1 = some (pvR 0)) (l2 : px_lg lv 2 = some (pvR 196)) (l3 : px_lg lv 3 = some (oI (i : Int))) {g : pH} (hG : g_I eG g) (hx : xL g) {P : Option pv × pH → Prop} (hC : ∀ g1 : pH, g_I eG g1 → xL g1 → u_X (some (xs, L)) 100 276 1313 lv [] g1 P) : u_X (some (xs, L)) 100 276 505 lv [] g P := by
  refine u_0 qL_505 rfl (ld_a l1) ?_
  refine u_0 qL_506 rfl (ld_a l0) ?_
  refine u_0 qL_507 rfl (ld_i l3) ?_
  refine u_0 qL_508 rfl rfl ?_
  refine u_0 qL_509 rfl pu_add ?_
  refine u_0 qL_510 rfl (pq_sa hL ⟨by omega, by omega⟩) ?_
  refine u_0 qL_511 rfl (ld_a l0) ?_
  refine u_0 qL_512 rfl (ld_i l3) ?_
  refine u_0 qL_513 rfl rfl ?_
  refine u_0 qL_514 rfl pu_add ?_
  refine u_0 qL_515 rfl (pq_sa hL ⟨by omega, by omega⟩) ?_
  refine u_0 qL_516 rfl (ld_a l0) ?_
  refine u_0 qL_517 rfl (ld_i l3) ?_
  refine u_0 qL_518 rfl rfl ?_
  refine u_0 qL_519 rfl pu_add ?_
  refine u_0 qL_520 rfl (pq_sa hL ⟨by omega, by omega⟩) ?_
  refine u_3 qL_521 rfl (ar := ([pvR 0, .inl (xs ((i : Int) + 1).toNat), .inl (xs ((i : Int) + 2).toNat), .inl (xs ((i : Int) + 3).toNat)], [])) (pcal_w (as := [.inl (xs ((i : Int) + 3).toNat), .inl (xs ((i : Int) + 2).toNat), .inl (xs ((i : Int) + 1).toNat)]) rfl rfl rfl el_0) ⟨by decide, Nat.le_of_ble_eq_true rfl, Nat.le_of_ble_eq_true rfl, rfl⟩ ?_
  refine kc_go (k := kk_14) in_k14 rfl (by decide) hG hx (vs := [pvR 0, .inl (xs ((i : Int) + 1).toNat), .inl (xs ((i : Int) + 2).toNat), .inl (xs ((i : Int) + 3).toNat)]) (xs := [cv (pvR 0), ((xs ((i : Int) + 1).toNat)).toInt, ((xs ((i : Int) + 2).toNat)).toInt, ((xs ((i : Int) + 3).toNat)).toInt]) ⟨by decide, ⟨⟨pvR 0, rfl, rfl, rfl, ok_0⟩, ⟨.inl (xs ((i : Int) + 1).toNat), rfl, rfl, rfl, ok_full32 _⟩, ⟨.inl (xs ((i : Int) + 2).toNat), rfl, rfl, rfl, ok_full32 _⟩, ⟨.inl (xs ((i : Int) + 3).toNat), rfl, rfl, rfl, ok_full32 _⟩, trivial⟩, trivial, fun c hc => by cases hc⟩ rfl (n := 0) (by decide +kernel) (fun v1 g1 t1 G1 X1 M1 => ?_)
  obtain ⟨r1, rfl⟩ := ct_0 t1
  show u_X (some (xs, L)) 100 276 524 lv [.inl r1] g1 P
  refine u_0 qL_524 rfl rfl ?_
  show u_X (some (xs, L)) 100 276 525 lv [] g1 P
  refine u_0 qL_525 rfl (ld_a l2) ?_
  refine u_0 qL_526 rfl (ld_a l0) ?_
  refine u_0 qL_527 rfl (ld_i l3) ?_
  refine u_0 qL_528 rfl rfl ?_
  refine u_0 qL_529 rfl pu_add ?_
  refine u_0 qL_530 rfl (pq_sa hL ⟨by omega, by omega⟩) ?_
  refine u_0 qL_531 rfl (ld_a l0) ?_
  refine u_0 qL_532 rfl (ld_i l3) ?_
  refine u_0 qL_533 rfl rfl ?_
  refine u_0 qL_534 rfl pu_add ?_
  refine u_0 qL_535 rfl (pq_sa hL ⟨by omega, by omega⟩) ?_
  refine u_0 qL_536 rfl (ld_a l0) ?_
  refine u_0 qL_537 rfl (ld_i l3) ?_
  refine u_0 qL_538 rfl rfl ?_
  refine u_0 qL_539 rfl pu_add ?_
  refine u_0 qL_540 rfl (pq_sa hL ⟨by omega, by omega⟩) ?_
  refine u_3 qL_541 rfl (ar := ([pvR 196, .inl (xs ((i : Int) + 1).toNat), .inl (xs ((i : Int) + 2).toNat), .inl (xs ((i : Int) + 3).toNat)], [])) (pcal_w (as := [.inl (xs ((i : Int) + 3).toNat), .inl (xs ((i : Int) + 2).toNat), .inl (xs ((i : Int) + 1).toNat)]) rfl rfl rfl el_196) ⟨by decide, Nat.le_of_ble_eq_true rfl, Nat.le_of_ble_eq_true rfl, rfl⟩ ?_
  refine kc_go (k := kk_15) in_k15 rfl (by decide) G1 X1 (vs := [pvR 196, .inl (xs ((i : Int) + 1).toNat), .inl (xs ((i : Int) + 2).toNat), .inl (xs ((i : Int) + 3).toNat)]) (xs := [cv (pvR 196), ((xs ((i : Int) + 1).toNat)).toInt, ((xs ((i : Int) + 2).toNat)).toInt, ((xs ((i : Int) + 3).toNat)).toInt]) ⟨by decide, ⟨⟨pvR 196, rfl, rfl, rfl, ok_this⟩, ⟨.inl (xs ((i : Int) + 1).toNat), rfl, rfl, rfl, ok_full32 _⟩, ⟨.inl (xs ((i : Int) + 2).toNat), rfl, rfl, rfl, ok_full32 _⟩, ⟨.inl (xs ((i : Int) + 3).toNat), rfl, rfl, rfl, ok_full32 _⟩, trivial⟩, trivial, fun c hc => by cases hc⟩ rfl (n := 0) (by decide +kernel) (fun v2 g2 t2 G2 X2 M2 => ?_)
  obtain ⟨r2, rfl⟩ := ct_0 t2
  show u_X (some (xs, L)) 100 276 544 lv [.inl r2] g2 P
  refine u_0 qL_544 rfl rfl ?_
  show u_X (some (xs, L)) 100 276 545 lv [] g2 P
  refine u_1 qL_545 rfl (pb_goto (pc := 545) (by decide)) ?_
  show u_X (some (xs, L)) 100 276 1313 lv [] g2 P
  exact hC _ G2 X2
set_option maxHeartbeats 4000000 in
theorem lo_op10 {xs : Nat → Int32} {L : Nat} (hL : L ≤ 3072) {i : Nat} (hi : i + 6 ≤ L) {lv : List (Nat × pv)} (l0 : px_lg lv 0 = some (pvR 1000)) (l1 : px_lg lv 1 = some (pvR 0)) (l2 : px_lg lv 2 = some (pvR 196)) (l3 : px_lg lv 3 = some (oI (i : Int))) {g : pH} (hG : g_I eG g) (hx : xL g) {P : Option pv × pH → Prop} (hC : ∀ g1 : pH, g_I eG g1 → xL g1 → u_X (some (xs, L)) 100 276 1313 lv [] g1 P) : u_X (some (xs, L)) 100 276 548 lv [] g P := by
  refine u_0 qL_548 rfl (ld_a l1) ?_
  refine u_0 qL_549 rfl (ld_a l0) ?_
  refine u_0 qL_550 rfl (ld_i l3) ?_
  refine u_0 qL_551 rfl rfl ?_
  refine u_0 qL_552 rfl pu_add ?_
  refine u_0 qL_553 rfl (pq_sa hL ⟨by omega, by omega⟩) ?_
  refine u_0 qL_554 rfl (ld_a l0) ?_
  refine u_0 qL_555 rfl (ld_i l3) ?_
  refine u_0 qL_556 rfl rfl ?_
  refine u_0 qL_557 rfl pu_add ?_
  refine u_0 qL_558 rfl (pq_sa hL ⟨by omega, by omega⟩) ?_
  refine u_0 qL_559 rfl (ld_a l0) ?_
  refine u_0 qL_560 rfl (ld_i l3) ?_
  refine u_0 qL_561 rfl rfl ?_
  refine u_0 qL_562 rfl pu_add ?_
  refine u_0 qL_563 rfl (pq_sa hL ⟨by omega, by omega⟩) ?_
  refine u_3 qL_564 rfl (ar := ([pvR 0, .inl (xs ((i : Int) + 1).toNat), .inl (xs ((i : Int) + 2).toNat), .inl (xs ((i : Int) + 3).toNat)], [])) (pcal_w (as := [.inl (xs ((i : Int) + 3).toNat), .inl (xs ((i : Int) + 2).toNat), .inl (xs ((i : Int) + 1).toNat)]) rfl rfl rfl el_0) ⟨by decide, Nat.le_of_ble_eq_true rfl, Nat.le_of_ble_eq_true rfl, rfl⟩ ?_
  refine kc_go (k := kk_16) in_k16 rfl (by decide) hG hx (vs := [pvR 0, .inl (xs ((i : Int) + 1).toNat), .inl (xs ((i : Int) + 2).toNat), .inl (xs ((i : Int) + 3).toNat)]) (xs := [cv (pvR 0), ((xs ((i : Int) + 1).toNat)).toInt, ((xs ((i : Int) + 2).toNat)).toInt, ((xs ((i : Int) + 3).toNat)).toInt]) ⟨by decide, ⟨⟨pvR 0, rfl, rfl, rfl, ok_0⟩, ⟨.inl (xs ((i : Int) + 1).toNat), rfl, rfl, rfl, ok_full32 _⟩, ⟨.inl (xs ((i : Int) + 2).toNat), rfl, rfl, rfl, ok_full32 _⟩, ⟨.inl (xs ((i : Int) + 3).toNat), rfl, rfl, rfl, ok_full32 _⟩, trivial⟩, trivial, fun c hc => by cases hc⟩ rfl (n := 0) (by decide +kernel) (fun v1 g1 t1 G1 X1 M1 => ?_)
  obtain ⟨r1, rfl⟩ := ct_0 t1
  show u_X (some (xs, L)) 100 276 567 lv [.inl r1] g1 P
  refine u_0 qL_567 rfl rfl ?_
  show u_X (some (xs, L)) 100 276 568 lv [] g1 P
  refine u_0 qL_568 rfl (ld_a l2) ?_
  refine u_0 qL_569 rfl (ld_a l0) ?_
  refine u_0 qL_570 rfl (ld_i l3) ?_
  refine u_0 qL_571 rfl rfl ?_
  refine u_0 qL_572 rfl pu_add ?_
  refine u_0 qL_573 rfl (pq_sa hL ⟨by omega, by omega⟩) ?_
  refine u_0 qL_574 rfl (ld_a l0) ?_
  refine u_0 qL_575 rfl (ld_i l3) ?_
  refine u_0 qL_576 rfl rfl ?_
  refine u_0 qL_577 rfl pu_add ?_
  refine u_0 qL_578 rfl (pq_sa hL ⟨by omega, by omega⟩) ?_
  refine u_0 qL_579 rfl (ld_a l0) ?_
  refine u_0 qL_580 rfl (ld_i l3) ?_
  refine u_0 qL_581 rfl rfl ?_
  refine u_0 qL_582 rfl pu_add ?_
  refine u_0 qL_583 rfl (pq_sa hL ⟨by omega, by omega⟩) ?_
  refine u_3 qL_584 rfl (ar := ([pvR 196, .inl (xs ((i : Int) + 1).toNat), .inl (xs ((i : Int) + 2).toNat), .inl (xs ((i : Int) + 3).toNat)], [])) (pcal_w (as := [.inl (xs ((i : Int) + 3).toNat), .inl (xs ((i : Int) + 2).toNat), .inl (xs ((i : Int) + 1).toNat)]) rfl rfl rfl el_196) ⟨by decide, Nat.le_of_ble_eq_true rfl, Nat.le_of_ble_eq_true rfl, rfl⟩ ?_
  refine kc_go (k := kk_17) in_k17 rfl (by decide) G1 X1 (vs := [pvR 196, .inl (xs ((i : Int) + 1).toNat), .inl (xs ((i : Int) + 2).toNat), .inl (xs ((i : Int) + 3).toNat)]) (xs := [cv (pvR 196), ((xs ((i : Int) + 1).toNat)).toInt, ((xs ((i : Int) + 2).toNat)).toInt, ((xs ((i : Int) + 3).toNat)).toInt]) ⟨by decide, ⟨⟨pvR 196, rfl, rfl, rfl, ok_this⟩, ⟨.inl (xs ((i : Int) + 1).toNat), rfl, rfl, rfl, ok_full32 _⟩, ⟨.inl (xs ((i : Int) + 2).toNat), rfl, rfl, rfl, ok_full32 _⟩, ⟨.inl (xs ((i : Int) + 3).toNat), rfl, rfl, rfl, ok_full32 _⟩, trivial⟩, trivial, fun c hc => by cases hc⟩ rfl (n := 0) (by decide +kernel) (fun v2 g2 t2 G2 X2 M2 => ?_)
  obtain ⟨r2, rfl⟩ := ct_0 t2
  show u_X (some (xs, L)) 100 276 587 lv [.inl r2] g2 P
  refine u_0 qL_587 rfl rfl ?_
  show u_X (some (xs, L)) 100 276 588 lv [] g2 P
  refine u_1 qL_588 rfl (pb_goto (pc := 588) (by decide)) ?_
  show u_X (some (xs, L)) 100 276 1313 lv [] g2 P
  exact hC _ G2 X2
set_option maxHeartbeats 4000000 in
theorem lo_op11 {xs : Nat → Int32} {L : Nat} (hL : L ≤ 3072) {i : Nat} (hi : i + 6 ≤ L) {lv : List (Nat × pv)} (l0 : px_lg lv 0 = some (pvR 1000)) (l1 : px_lg lv 1 = some (pvR 0)) (l2 : px_lg lv 2 = some (pvR 196)) (l3 : px_lg lv 3 = some (oI (i : Int))) {g : pH} (hG : g_I eG g) (hx : xL g) {P : Option pv × pH → Prop} (hC : ∀ g1 : pH, g_I eG g1 → xL g1 → u_X (some (xs, L)) 100 276 1313 lv [] g1 P) : u_X (some (xs, L)) 100 276 591 lv [] g P := by
  refine u_0 qL_591 rfl (ld_a l1) ?_
  refine u_0 qL_592 rfl (ld_a l0) ?_
  refine u_0 qL_593 rfl (ld_i l3) ?_
  refine u_0 qL_594 rfl rfl ?_
  refine u_0 qL_595 rfl pu_add ?_
  refine u_0 qL_596 rfl (pq_sa hL ⟨by omega, by omega⟩) ?_
  refine u_0 qL_597 rfl (ld_a l0) ?_
  refine u_0 qL_598 rfl (ld_i l3) ?_
  refine u_0 qL_599 rfl rfl ?_
  refine u_0 qL_600 rfl pu_add ?_
  refine u_0 qL_601 rfl (pq_sa hL ⟨by omega, by omega⟩) ?_
  refine u_3 qL_602 rfl (ar := ([pvR 0, .inl (xs ((i : Int) + 1).toNat), .inl (xs ((i : Int) + 2).toNat)], [])) (pcal_w (as := [.inl (xs ((i : Int) + 2).toNat), .inl (xs ((i : Int) + 1).toNat)]) rfl rfl rfl el_0) ⟨by decide, Nat.le_of_ble_eq_true rfl, Nat.le_of_ble_eq_true rfl, rfl⟩ ?_
  refine kc_go (k := kk_18) in_k18 rfl (by decide) hG hx (vs := [pvR 0, .inl (xs ((i : Int) + 1).toNat), .inl (xs ((i : Int) + 2).toNat)]) (xs := [cv (pvR 0), ((xs ((i : Int) + 1).toNat)).toInt, ((xs ((i : Int) + 2).toNat)).toInt]) ⟨by decide, ⟨⟨pvR 0, rfl, rfl, rfl, ok_0⟩, ⟨.inl (xs ((i : Int) + 1).toNat), rfl, rfl, rfl, ok_full32 _⟩, ⟨.inl (xs ((i : Int) + 2).toNat), rfl, rfl, rfl, ok_full32 _⟩, trivial⟩, trivial, fun c hc => by cases hc⟩ rfl (n := 0) (by decide +kernel) (fun v1 g1 t1 G1 X1 M1 => ?_)
  obtain ⟨r1, rfl⟩ := ct_0 t1
  show u_X (some (xs, L)) 100 276 605 lv [.inl r1] g1 P
  refine u_0 qL_605 rfl rfl ?_
  show u_X (some (xs, L)) 100 276 606 lv [] g1 P
  refine u_0 qL_606 rfl (ld_a l2) ?_
  refine u_0 qL_607 rfl (ld_a l0) ?_
  refine u_0 qL_608 rfl (ld_i l3) ?_
  refine u_0 qL_609 rfl rfl ?_
  refine u_0 qL_610 rfl pu_add ?_
  refine u_0 qL_611 rfl (pq_sa hL ⟨by omega, by omega⟩) ?_
  refine u_0 qL_612 rfl (ld_a l0) ?_
  refine u_0 qL_613 rfl (ld_i l3) ?_
  refine u_0 qL_614 rfl rfl ?_
  refine u_0 qL_615 rfl pu_add ?_
  refine u_0 qL_616 rfl (pq_sa hL ⟨by omega, by omega⟩) ?_
  refine u_3 qL_617 rfl (ar := ([pvR 196, .inl (xs ((i : Int) + 1).toNat), .inl (xs ((i : Int) + 2).toNat)], [])) (pcal_w (as := [.inl (xs ((i : Int) + 2).toNat), .inl (xs ((i : Int) + 1).toNat)]) rfl rfl rfl el_196) ⟨by decide, Nat.le_of_ble_eq_true rfl, Nat.le_of_ble_eq_true rfl, rfl⟩ ?_
  refine kc_go (k := kk_19) in_k19 rfl (by decide) G1 X1 (vs := [pvR 196, .inl (xs ((i : Int) + 1).toNat), .inl (xs ((i : Int) + 2).toNat)]) (xs := [cv (pvR 196), ((xs ((i : Int) + 1).toNat)).toInt, ((xs ((i : Int) + 2).toNat)).toInt]) ⟨by decide, ⟨⟨pvR 196, rfl, rfl, rfl, ok_this⟩, ⟨.inl (xs ((i : Int) + 1).toNat), rfl, rfl, rfl, ok_full32 _⟩, ⟨.inl (xs ((i : Int) + 2).toNat), rfl, rfl, rfl, ok_full32 _⟩, trivial⟩, trivial, fun c hc => by cases hc⟩ rfl (n := 0) (by decide +kernel) (fun v2 g2 t2 G2 X2 M2 => ?_)
  obtain ⟨r2, rfl⟩ := ct_0 t2
  show u_X (some (xs, L)) 100 276 620 lv [.inl r2] g2 P
  refine u_0 qL_620 rfl rfl ?_
  show u_X (some (xs, L)) 100 276 621 lv [] g2 P
  refine u_1 qL_621 rfl (pb_goto (pc := 621) (by decide)) ?_
  show u_X (some (xs, L)) 100 276 1313 lv [] g2 P
  exact hC _ G2 X2
set_option maxHeartbeats 4000000 in
theorem lo_op12 {xs : Nat → Int32} {L : Nat} (hL : L ≤ 3072) {i : Nat} (hi : i + 6 ≤ L) {lv : List (Nat × pv)} (l0 : px_lg lv 0 = some (pvR 1000)) (l1 : px_lg lv 1 = some (pvR 0)) (l2 : px_lg lv 2 = some (pvR 196)) (l3 : px_lg lv 3 = some (oI (i : Int))) {g : pH} (hG : g_I eG g) (hx : xL g) {P : Option pv × pH → Prop} (hC : ∀ g1 : pH, g_I eG g1 → xL g1 → u_X (some (xs, L)) 100 276 1313 lv [] g1 P) : u_X (some (xs, L)) 100 276 624 lv [] g P := by
  refine u_0 qL_624 rfl (ld_a l1) ?_
  refine u_0 qL_625 rfl (ld_a l0) ?_
  refine u_0 qL_626 rfl (ld_i l3) ?_
  refine u_0 qL_627 rfl rfl ?_
  refine u_0 qL_628 rfl pu_add ?_
  refine u_0 qL_629 rfl (pq_sa hL ⟨by omega, by omega⟩) ?_
  refine u_3 qL_630 rfl (ar := ([pvR 0, .inl (xs ((i : Int) + 1).toNat)], [])) (pcal_w (as := [.inl (xs ((i : Int) + 1).toNat)]) rfl rfl rfl el_0) ⟨by decide, Nat.le_of_ble_eq_true rfl, Nat.le_of_ble_eq_true rfl, rfl⟩ ?_
  refine kc_go (k := kk_21) in_k21 rfl (by decide) hG hx (vs := [pvR 0, .inl (xs ((i : Int) + 1).toNat)]) (xs := [cv (pvR 0), ((xs ((i : Int) + 1).toNat)).toInt]) ⟨by decide, ⟨⟨pvR 0, rfl, rfl, rfl, ok_0⟩, ⟨.inl (xs ((i : Int) + 1).toNat), rfl, rfl, rfl, ok_full32 _⟩, trivial⟩, trivial, fun c hc => by cases hc⟩ rfl (n := 0) (by decide +kernel) (fun v1 g1 t1 G1 X1 M1 => ?_)
  obtain ⟨r1, rfl⟩ := ct_0 t1
  show u_X (some (xs, L)) 100 276 633 lv [.inl r1] g1 P
  refine u_0 qL_633 rfl rfl ?_
  show u_X (some (xs, L)) 100 276 634 lv [] g1 P
  refine u_0 qL_634 rfl (ld_a l2) ?_
  refine u_0 qL_635 rfl (ld_a l0) ?_
  refine u_0 qL_636 rfl (ld_i l3) ?_
  refine u_0 qL_637 rfl rfl ?_
  refine u_0 qL_638 rfl pu_add ?_
  refine u_0 qL_639 rfl (pq_sa hL ⟨by omega, by omega⟩) ?_
  refine u_3 qL_640 rfl (ar := ([pvR 196, .inl (xs ((i : Int) + 1).toNat)], [])) (pcal_w (as := [.inl (xs ((i : Int) + 1).toNat)]) rfl rfl rfl el_196) ⟨by decide, Nat.le_of_ble_eq_true rfl, Nat.le_of_ble_eq_true rfl, rfl⟩ ?_
  refine kc_go (k := kk_22) in_k22 rfl (by decide) G1 X1 (vs := [pvR 196, .inl (xs ((i : Int) + 1).toNat)]) (xs := [cv (pvR 196), ((xs ((i : Int) + 1).toNat)).toInt]) ⟨by decide, ⟨⟨pvR 196, rfl, rfl, rfl, ok_this⟩, ⟨.inl (xs ((i : Int) + 1).toNat), rfl, rfl, rfl, ok_full32 _⟩, trivial⟩, trivial, fun c hc => by cases hc⟩ rfl (n := 0) (by decide +kernel) (fun v2 g2 t2 G2 X2 M2 => ?_)
  obtain ⟨r2, rfl⟩ := ct_0 t2
  show u_X (some (xs, L)) 100 276 643 lv [.inl r2] g2 P
  refine u_0 qL_643 rfl rfl ?_
  show u_X (some (xs, L)) 100 276 644 lv [] g2 P
  refine u_1 qL_644 rfl (pb_goto (pc := 644) (by decide)) ?_
  show u_X (some (xs, L)) 100 276 1313 lv [] g2 P
  exact hC _ G2 X2
set_option maxHeartbeats 4000000 in
theorem lo_op13 {xs : Nat → Int32} {L : Nat} (hL : L ≤ 3072) {i : Nat} (hi : i + 6 ≤ L) {lv : List (Nat × pv)} (l0 : px_lg lv 0 = some (pvR 1000)) (l1 : px_lg lv 1 = some (pvR 0)) (l2 : px_lg lv 2 = some (pvR 196)) (l3 : px_lg lv 3 = some (oI (i : Int))) {g : pH} (hG : g_I eG g) (hx : xL g) {P : Option pv × pH → Prop} (hC : ∀ g1 : pH, g_I eG g1 → xL g1 → u_X (some (xs, L)) 100 276 1313 lv [] g1 P) : u_X (some (xs, L)) 100 276 647 lv [] g P := by
  refine u_0 qL_647 rfl (ld_a l1) ?_
  refine u_3 qL_648 rfl (ar := ([pvR 0], [])) (pcal_w (as := []) rfl rfl rfl el_0) ⟨by decide, Nat.le_of_ble_eq_true rfl, Nat.le_of_ble_eq_true rfl, rfl⟩ ?_
  refine kc_go (k := kk_24) in_k24 rfl (by decide) hG hx (vs := [pvR 0]) (xs := [cv (pvR 0)]) ⟨by decide, ⟨⟨pvR 0, rfl, rfl, rfl, ok_0⟩, trivial⟩, trivial, fun c hc => by cases hc⟩ rfl (n := 0) (by decide +kernel) (fun v1 g1 t1 G1 X1 M1 => ?_)
  obtain ⟨r1, rfl⟩ := ct_0 t1
  show u_X (some (xs, L)) 100 276 651 lv [.inl r1] g1 P
  refine u_0 qL_651 rfl rfl ?_
  show u_X (some (xs, L)) 100 276 652 lv [] g1 P
  refine u_0 qL_652 rfl (ld_a l2) ?_
  refine u_3 qL_653 rfl (ar := ([pvR 196], [])) (pcal_w (as := []) rfl rfl rfl el_196) ⟨by decide, Nat.le_of_ble_eq_true rfl, Nat.le_of_ble_eq_true rfl, rfl⟩ ?_
  refine kc_go (k := kk_25) in_k25 rfl (by decide) G1 X1 (vs := [pvR 196]) (xs := [cv (pvR 196)]) ⟨by decide, ⟨⟨pvR 196, rfl, rfl, rfl, ok_this⟩, trivial⟩, trivial, fun c hc => by cases hc⟩ rfl (n := 0) (by decide +kernel) (fun v2 g2 t2 G2 X2 M2 => ?_)
  obtain ⟨r2, rfl⟩ := ct_0 t2
  show u_X (some (xs, L)) 100 276 656 lv [.inl r2] g2 P
  refine u_0 qL_656 rfl rfl ?_
  show u_X (some (xs, L)) 100 276 657 lv [] g2 P
  refine u_1 qL_657 rfl (pb_goto (pc := 657) (by decide)) ?_
  show u_X (some (xs, L)) 100 276 1313 lv [] g2 P
  exact hC _ G2 X2
set_option maxHeartbeats 4000000 in
theorem lo_op14 {xs : Nat → Int32} {L : Nat} (hL : L ≤ 3072) {i : Nat} (hi : i + 6 ≤ L) {lv : List (Nat × pv)} (l0 : px_lg lv 0 = some (pvR 1000)) (l1 : px_lg lv 1 = some (pvR 0)) (l2 : px_lg lv 2 = some (pvR 196)) (l3 : px_lg lv 3 = some (oI (i : Int))) {g : pH} (hG : g_I eG g) (hx : xL g) {P : Option pv × pH → Prop} (hC : ∀ g1 : pH, g_I eG g1 → xL g1 → u_X (some (xs, L)) 100 276 1313 lv [] g1 P) : u_X (some (xs, L)) 100 276 660 lv [] g P := by
  refine u_0 qL_660 rfl (ld_a l1) ?_
  refine u_0 qL_661 rfl (ld_a l0) ?_
  refine u_0 qL_662 rfl (ld_i l3) ?_
  refine u_0 qL_663 rfl rfl ?_
  refine u_0 qL_664 rfl pu_add ?_
  refine u_0 qL_665 rfl (pq_sa hL ⟨by omega, by omega⟩) ?_
  refine u_3 qL_666 rfl (ar := ([pvR 0, .inl (xs ((i : Int) + 1).toNat)], [])) (pcal_w (as := [.inl (xs ((i : Int) + 1).toNat)]) rfl rfl rfl el_0) ⟨by decide, Nat.le_of_ble_eq_true rfl, Nat.le_of_ble_eq_true rfl, rfl⟩ ?_
  refine kc_go (k := kk_26) in_k26 rfl (by decide) hG hx (vs := [pvR 0, .inl (xs ((i : Int) + 1).toNat)]) (xs := [cv (pvR 0), ((xs ((i : Int) + 1).toNat)).toInt]) ⟨by decide, ⟨⟨pvR 0, rfl, rfl, rfl, ok_0⟩, ⟨.inl (xs ((i : Int) + 1).toNat), rfl, rfl, rfl, ok_full32 _⟩, trivial⟩, trivial, fun c hc => by cases hc⟩ rfl (n := 0) (by decide +kernel) (fun v1 g1 t1 G1 X1 M1 => ?_)
  obtain ⟨r1, rfl⟩ := ct_0 t1
  show u_X (some (xs, L)) 100 276 669 lv [.inl r1] g1 P
  refine u_0 qL_669 rfl rfl ?_
  show u_X (some (xs, L)) 100 276 670 lv [] g1 P
  refine u_0 qL_670 rfl (ld_a l2) ?_
  refine u_0 qL_671 rfl (ld_a l0) ?_
  refine u_0 qL_672 rfl (ld_i l3) ?_
  refine u_0 qL_673 rfl rfl ?_
  refine u_0 qL_674 rfl pu_add ?_
  refine u_0 qL_675 rfl (pq_sa hL ⟨by omega, by omega⟩) ?_
  refine u_3 qL_676 rfl (ar := ([pvR 196, .inl (xs ((i : Int) + 1).toNat)], [])) (pcal_w (as := [.inl (xs ((i : Int) + 1).toNat)]) rfl rfl rfl el_196) ⟨by decide, Nat.le_of_ble_eq_true rfl, Nat.le_of_ble_eq_true rfl, rfl⟩ ?_
  refine kc_go (k := kk_27) in_k27 rfl (by decide) G1 X1 (vs := [pvR 196, .inl (xs ((i : Int) + 1).toNat)]) (xs := [cv (pvR 196), ((xs ((i : Int) + 1).toNat)).toInt]) ⟨by decide, ⟨⟨pvR 196, rfl, rfl, rfl, ok_this⟩, ⟨.inl (xs ((i : Int) + 1).toNat), rfl, rfl, rfl, ok_full32 _⟩, trivial⟩, trivial, fun c hc => by cases hc⟩ rfl (n := 0) (by decide +kernel) (fun v2 g2 t2 G2 X2 M2 => ?_)
  obtain ⟨r2, rfl⟩ := ct_0 t2
  show u_X (some (xs, L)) 100 276 679 lv [.inl r2] g2 P
  refine u_0 qL_679 rfl rfl ?_
  show u_X (some (xs, L)) 100 276 680 lv [] g2 P
  refine u_1 qL_680 rfl (pb_goto (pc := 680) (by decide)) ?_
  show u_X (some (xs, L)) 100 276 1313 lv [] g2 P
  exact hC _ G2 X2
set_option maxHeartbeats 4000000 in
theorem lo_op15 {xs : Nat → Int32} {L : Nat} (hL : L ≤ 3072) {i : Nat} (hi : i + 6 ≤ L) {lv : List (Nat × pv)} (l0 : px_lg lv 0 = some (pvR 1000)) (l1 : px_lg lv 1 = some (pvR 0)) (l2 : px_lg lv 2 = some (pvR 196)) (l3 : px_lg lv 3 = some (oI (i : Int))) {g : pH} (hG : g_I eG g) (hx : xL g) {P : Option pv × pH → Prop} (hC : ∀ g1 : pH, g_I eG g1 → xL g1 → u_X (some (xs, L)) 100 276 1313 lv [] g1 P) : u_X (some (xs, L)) 100 276 683 lv [] g P := by
  refine u_0 qL_683 rfl (ld_a l1) ?_
  refine u_0 qL_684 rfl (ld_a l0) ?_
  refine u_0 qL_685 rfl (ld_i l3) ?_
  refine u_0 qL_686 rfl rfl ?_
  refine u_0 qL_687 rfl pu_add ?_
  refine u_0 qL_688 rfl (pq_sa hL ⟨by omega, by omega⟩) ?_
  refine u_0 qL_689 rfl (ld_a l0) ?_
  refine u_0 qL_690 rfl (ld_i l3) ?_
  refine u_0 qL_691 rfl rfl ?_
  refine u_0 qL_692 rfl pu_add ?_
  refine u_0 qL_693 rfl (pq_sa hL ⟨by omega, by omega⟩) ?_
  refine u_0 qL_694 rfl (ld_a l0) ?_
  refine u_0 qL_695 rfl (ld_i l3) ?_
  refine u_0 qL_696 rfl rfl ?_
  refine u_0 qL_697 rfl pu_add ?_
  refine u_0 qL_698 rfl (pq_sa hL ⟨by omega, by omega⟩) ?_
  refine u_0 qL_699 rfl (ld_a l0) ?_
  refine u_0 qL_700 rfl (ld_i l3) ?_
  refine u_0 qL_701 rfl rfl ?_
  refine u_0 qL_702 rfl pu_add ?_
  refine u_0 qL_703 rfl (pq_sa hL ⟨by omega, by omega⟩) ?_
  refine u_3 qL_704 rfl (ar := ([pvR 0, .inl (xs ((i : Int) + 1).toNat), .inl (xs ((i : Int) + 2).toNat), .inl (xs ((i : Int) + 3).toNat), .inl (xs ((i : Int) + 4).toNat)], [])) (pcal_w (as := [.inl (xs ((i : Int) + 4).toNat), .inl (xs ((i : Int) + 3).toNat), .inl (xs ((i : Int) + 2).toNat), .inl (xs ((i : Int) + 1).toNat)]) rfl rfl rfl el_0) ⟨by decide, Nat.le_of_ble_eq_true rfl, Nat.le_of_ble_eq_true rfl, rfl⟩ ?_
  refine kc_go (k := kk_28) in_k28 rfl (by decide) hG hx (vs := [pvR 0, .inl (xs ((i : Int) + 1).toNat), .inl (xs ((i : Int) + 2).toNat), .inl (xs ((i : Int) + 3).toNat), .inl (xs ((i : Int) + 4).toNat)]) (xs := [cv (pvR 0), ((xs ((i : Int) + 1).toNat)).toInt, ((xs ((i : Int) + 2).toNat)).toInt, ((xs ((i : Int) + 3).toNat)).toInt, ((xs ((i : Int) + 4).toNat)).toInt]) ⟨by decide, ⟨⟨pvR 0, rfl, rfl, rfl, ok_0⟩, ⟨.inl (xs ((i : Int) + 1).toNat), rfl, rfl, rfl, ok_full32 _⟩, ⟨.inl (xs ((i : Int) + 2).toNat), rfl, rfl, rfl, ok_full32 _⟩, ⟨.inl (xs ((i : Int) + 3).toNat), rfl, rfl, rfl, ok_full32 _⟩, ⟨.inl (xs ((i : Int) + 4).toNat), rfl, rfl, rfl, ok_full32 _⟩, trivial⟩, trivial, fun c hc => by cases hc⟩ rfl (n := 0) (by decide +kernel) (fun v1 g1 t1 G1 X1 M1 => ?_)
  obtain ⟨r1, rfl⟩ := ct_0 t1
  show u_X (some (xs, L)) 100 276 707 lv [.inl r1] g1 P
  refine u_0 qL_707 rfl rfl ?_
  show u_X (some (xs, L)) 100 276 708 lv [] g1 P
  refine u_0 qL_708 rfl (ld_a l2) ?_
  refine u_0 qL_709 rfl (ld_a l0) ?_
  refine u_0 qL_710 rfl (ld_i l3) ?_
  refine u_0 qL_711 rfl rfl ?_
  refine u_0 qL_712 rfl pu_add ?_
  refine u_0 qL_713 rfl (pq_sa hL ⟨by omega, by omega⟩) ?_
  refine u_0 qL_714 rfl (ld_a l0) ?_
  refine u_0 qL_715 rfl (ld_i l3) ?_
  refine u_0 qL_716 rfl rfl ?_
  refine u_0 qL_717 rfl pu_add ?_
  refine u_0 qL_718 rfl (pq_sa hL ⟨by omega, by omega⟩) ?_
  refine u_0 qL_719 rfl (ld_a l0) ?_
  refine u_0 qL_720 rfl (ld_i l3) ?_
  refine u_0 qL_721 rfl rfl ?_
  refine u_0 qL_722 rfl pu_add ?_
  refine u_0 qL_723 rfl (pq_sa hL ⟨by omega, by omega⟩) ?_
  refine u_0 qL_724 rfl (ld_a l0) ?_
  refine u_0 qL_725 rfl (ld_i l3) ?_
  refine u_0 qL_726 rfl rfl ?_
  refine u_0 qL_727 rfl pu_add ?_
  refine u_0 qL_728 rfl (pq_sa hL ⟨by omega, by omega⟩) ?_
  refine u_3 qL_729 rfl (ar := ([pvR 196, .inl (xs ((i : Int) + 1).toNat), .inl (xs ((i : Int) + 2).toNat), .inl (xs ((i : Int) + 3).toNat), .inl (xs ((i : Int) + 4).toNat)], [])) (pcal_w (as := [.inl (xs ((i : Int) + 4).toNat), .inl (xs ((i : Int) + 3).toNat), .inl (xs ((i : Int) + 2).toNat), .inl (xs ((i : Int) + 1).toNat)]) rfl rfl rfl el_196) ⟨by decide, Nat.le_of_ble_eq_true rfl, Nat.le_of_ble_eq_true rfl, rfl⟩ ?_
  refine kc_go (k := kk_29) in_k29 rfl (by decide) G1 X1 (vs := [pvR 196, .inl (xs ((i : Int) + 1).toNat), .inl (xs ((i : Int) + 2).toNat), .inl (xs ((i : Int) + 3).toNat), .inl (xs ((i : Int) + 4).toNat)]) (xs := [cv (pvR 196), ((xs ((i : Int) + 1).toNat)).toInt, ((xs ((i : Int) + 2).toNat)).toInt, ((xs ((i : Int) + 3).toNat)).toInt, ((xs ((i : Int) + 4).toNat)).toInt]) ⟨by decide, ⟨⟨pvR 196, rfl, rfl, rfl, ok_this⟩, ⟨.inl (xs ((i : Int) + 1).toNat), rfl, rfl, rfl, ok_full32 _⟩, ⟨.inl (xs ((i : Int) + 2).toNat), rfl, rfl, rfl, ok_full32 _⟩, ⟨.inl (xs ((i : Int) + 3).toNat), rfl, rfl, rfl, ok_full32 _⟩, ⟨.inl (xs ((i : Int) + 4).toNat), rfl, rfl, rfl, ok_full32 _⟩, trivial⟩, trivial, fun c hc => by cases hc⟩ rfl (n := 0) (by decide +kernel) (fun v2 g2 t2 G2 X2 M2 => ?_)
  obtain ⟨r2, rfl⟩ := ct_0 t2
  show u_X (some (xs, L)) 100 276 732 lv [.inl r2] g2 P
  refine u_0 qL_732 rfl rfl ?_
  show u_X (some (xs, L)) 100 276 733 lv [] g2 P
  refine u_1 qL_733 rfl (pb_goto (pc := 733) (by decide)) ?_
  show u_X (some (xs, L)) 100 276 1313 lv [] g2 P
  exact hC _ G2 X2
set_option maxHeartbeats 4000000 in
theorem lo_op16 {xs : Nat → Int32} {L : Nat} (hL : L ≤ 3072) {i : Nat} (hi : i + 6 ≤ L) {lv : List (Nat × pv)} (l0 : px_lg lv 0 = some (pvR 1000)) (l1 : px_lg lv 1 = some (pvR 0)) (l2 : px_lg lv 2 = some (pvR 196)) (l3 : px_lg lv 3 = some (oI (i : Int))) {g : pH} (hG : g_I eG g) (hx : xL g) {P : Option pv × pH → Prop} (hC : ∀ g1 : pH, g_I eG g1 → xL g1 → u_X (some (xs, L)) 100 276 1313 lv [] g1 P) : u_X (some (xs, L)) 100 276 736 lv [] g P := by
  refine u_0 qL_736 rfl (ld_a l1) ?_
  refine u_0 qL_737 rfl (ld_a l0) ?_
  refine u_0 qL_738 rfl (ld_i l3) ?_
  refine u_0 qL_739 rfl rfl ?_
  refine u_0 qL_740 rfl pu_add ?_
  refine u_0 qL_741 rfl (pq_sa hL ⟨by omega, by omega⟩) ?_
  refine u_0 qL_742 rfl (ld_a l0) ?_
  refine u_0 qL_743 rfl (ld_i l3) ?_
  refine u_0 qL_744 rfl rfl ?_
  refine u_0 qL_745 rfl pu_add ?_
  refine u_0 qL_746 rfl (pq_sa hL ⟨by omega, by omega⟩) ?_
  refine u_3 qL_747 rfl (ar := ([pvR 0, .inl (xs ((i : Int) + 1).toNat), .inl (xs ((i : Int) + 2).toNat)], [])) (pcal_w (as := [.inl (xs ((i : Int) + 2).toNat), .inl (xs ((i : Int) + 1).toNat)]) rfl rfl rfl el_0) ⟨by decide, Nat.le_of_ble_eq_true rfl, Nat.le_of_ble_eq_true rfl, rfl⟩ ?_
  refine kc_go (k := kk_30) in_k30 rfl (by decide) hG hx (vs := [pvR 0, .inl (xs ((i : Int) + 1).toNat), .inl (xs ((i : Int) + 2).toNat)]) (xs := [cv (pvR 0), ((xs ((i : Int) + 1).toNat)).toInt, ((xs ((i : Int) + 2).toNat)).toInt]) ⟨by decide, ⟨⟨pvR 0, rfl, rfl, rfl, ok_0⟩, ⟨.inl (xs ((i : Int) + 1).toNat), rfl, rfl, rfl, ok_full32 _⟩, ⟨.inl (xs ((i : Int) + 2).toNat), rfl, rfl, rfl, ok_full32 _⟩, trivial⟩, trivial, fun c hc => by cases hc⟩ rfl (n := 1) (by decide +kernel) (fun v1 g1 t1 G1 X1 M1 => ?_)
  obtain ⟨r1, rfl⟩ := ct_1 t1
  show u_X (some (xs, L)) 100 276 750 lv [.inr (.inl r1)] g1 P
  refine u_0 qL_750 rfl rfl ?_
  show u_X (some (xs, L)) 100 276 751 lv [] g1 P
  refine u_0 qL_751 rfl (ld_a l2) ?_
  refine u_0 qL_752 rfl (ld_a l0) ?_
  refine u_0 qL_753 rfl (ld_i l3) ?_
  refine u_0 qL_754 rfl rfl ?_
  refine u_0 qL_755 rfl pu_add ?_
  refine u_0 qL_756 rfl (pq_sa hL ⟨by omega, by omega⟩) ?_
  refine u_0 qL_757 rfl (ld_a l0) ?_
  refine u_0 qL_758 rfl (ld_i l3) ?_
  refine u_0 qL_759 rfl rfl ?_
  refine u_0 qL_760 rfl pu_add ?_
  refine u_0 qL_761 rfl (pq_sa hL ⟨by omega, by omega⟩) ?_
  refine u_3 qL_762 rfl (ar := ([pvR 196, .inl (xs ((i : Int) + 1).toNat), .inl (xs ((i : Int) + 2).toNat)], [])) (pcal_w (as := [.inl (xs ((i : Int) + 2).toNat), .inl (xs ((i : Int) + 1).toNat)]) rfl rfl rfl el_196) ⟨by decide, Nat.le_of_ble_eq_true rfl, Nat.le_of_ble_eq_true rfl, rfl⟩ ?_
  refine kc_go (k := kk_31) in_k31 rfl (by decide) G1 X1 (vs := [pvR 196, .inl (xs ((i : Int) + 1).toNat), .inl (xs ((i : Int) + 2).toNat)]) (xs := [cv (pvR 196), ((xs ((i : Int) + 1).toNat)).toInt, ((xs ((i : Int) + 2).toNat)).toInt]) ⟨by decide, ⟨⟨pvR 196, rfl, rfl, rfl, ok_this⟩, ⟨.inl (xs ((i : Int) + 1).toNat), rfl, rfl, rfl, ok_full32 _⟩, ⟨.inl (xs ((i : Int) + 2).toNat), rfl, rfl, rfl, ok_full32 _⟩, trivial⟩, trivial, fun c hc => by cases hc⟩ rfl (n := 1) (by decide +kernel) (fun v2 g2 t2 G2 X2 M2 => ?_)
  obtain ⟨r2, rfl⟩ := ct_1 t2
  show u_X (some (xs, L)) 100 276 765 lv [.inr (.inl r2)] g2 P
  refine u_0 qL_765 rfl rfl ?_
  show u_X (some (xs, L)) 100 276 766 lv [] g2 P
  refine u_1 qL_766 rfl (pb_goto (pc := 766) (by decide)) ?_
  show u_X (some (xs, L)) 100 276 1313 lv [] g2 P
  exact hC _ G2 X2
set_option maxHeartbeats 4000000 in
theorem lo_op17 {xs : Nat → Int32} {L : Nat} (hL : L ≤ 3072) {i : Nat} (hi : i + 6 ≤ L) {lv : List (Nat × pv)} (l0 : px_lg lv 0 = some (pvR 1000)) (l1 : px_lg lv 1 = some (pvR 0)) (l2 : px_lg lv 2 = some (pvR 196)) (l3 : px_lg lv 3 = some (oI (i : Int))) {g : pH} (hG : g_I eG g) (hx : xL g) {P : Option pv × pH → Prop} (hC : ∀ g1 : pH, g_I eG g1 → xL g1 → u_X (some (xs, L)) 100 276 1313 lv [] g1 P) : u_X (some (xs, L)) 100 276 769 lv [] g P := by
  refine u_0 qL_769 rfl (ld_a l1) ?_
  refine u_0 qL_770 rfl (ld_a l0) ?_
  refine u_0 qL_771 rfl (ld_i l3) ?_
  refine u_0 qL_772 rfl rfl ?_
  refine u_0 qL_773 rfl pu_add ?_
  refine u_0 qL_774 rfl (pq_sa hL ⟨by omega, by omega⟩) ?_
  refine u_0 qL_775 rfl (ld_a l0) ?_
  refine u_0 qL_776 rfl (ld_i l3) ?_
  refine u_0 qL_777 rfl rfl ?_
  refine u_0 qL_778 rfl pu_add ?_
  refine u_0 qL_779 rfl (pq_sa hL ⟨by omega, by omega⟩) ?_
  refine u_3 qL_780 rfl (ar := ([pvR 0, .inl (xs ((i : Int) + 1).toNat), .inl (xs ((i : Int) + 2).toNat)], [])) (pcal_w (as := [.inl (xs ((i : Int) + 2).toNat), .inl (xs ((i : Int) + 1).toNat)]) rfl rfl rfl el_0) ⟨by decide, Nat.le_of_ble_eq_true rfl, Nat.le_of_ble_eq_true rfl, rfl⟩ ?_
  refine kc_go (k := kk_32) in_k32 rfl (by decide) hG hx (vs := [pvR 0, .inl (xs ((i : Int) + 1).toNat), .inl (xs ((i : Int) + 2).toNat)]) (xs := [cv (pvR 0), ((xs ((i : Int) + 1).toNat)).toInt, ((xs ((i : Int) + 2).toNat)).toInt]) ⟨by decide, ⟨⟨pvR 0, rfl, rfl, rfl, ok_0⟩, ⟨.inl (xs ((i : Int) + 1).toNat), rfl, rfl, rfl, ok_full32 _⟩, ⟨.inl (xs ((i : Int) + 2).toNat), rfl, rfl, rfl, ok_full32 _⟩, trivial⟩, trivial, fun c hc => by cases hc⟩ rfl (n := 1) (by decide +kernel) (fun v1 g1 t1 G1 X1 M1 => ?_)
  obtain ⟨r1, rfl⟩ := ct_1 t1
  show u_X (some (xs, L)) 100 276 783 lv [.inr (.inl r1)] g1 P
  refine u_0 qL_783 rfl rfl ?_
  show u_X (some (xs, L)) 100 276 784 lv [] g1 P
  refine u_0 qL_784 rfl (ld_a l2) ?_
  refine u_0 qL_785 rfl (ld_a l0) ?_
  refine u_0 qL_786 rfl (ld_i l3) ?_
  refine u_0 qL_787 rfl rfl ?_
  refine u_0 qL_788 rfl pu_add ?_
  refine u_0 qL_789 rfl (pq_sa hL ⟨by omega, by omega⟩) ?_
  refine u_0 qL_790 rfl (ld_a l0) ?_
  refine u_0 qL_791 rfl (ld_i l3) ?_
  refine u_0 qL_792 rfl rfl ?_
  refine u_0 qL_793 rfl pu_add ?_
  refine u_0 qL_794 rfl (pq_sa hL ⟨by omega, by omega⟩) ?_
  refine u_3 qL_795 rfl (ar := ([pvR 196, .inl (xs ((i : Int) + 1).toNat), .inl (xs ((i : Int) + 2).toNat)], [])) (pcal_w (as := [.inl (xs ((i : Int) + 2).toNat), .inl (xs ((i : Int) + 1).toNat)]) rfl rfl rfl el_196) ⟨by decide, Nat.le_of_ble_eq_true rfl, Nat.le_of_ble_eq_true rfl, rfl⟩ ?_
  refine kc_go (k := kk_33) in_k33 rfl (by decide) G1 X1 (vs := [pvR 196, .inl (xs ((i : Int) + 1).toNat), .inl (xs ((i : Int) + 2).toNat)]) (xs := [cv (pvR 196), ((xs ((i : Int) + 1).toNat)).toInt, ((xs ((i : Int) + 2).toNat)).toInt]) ⟨by decide, ⟨⟨pvR 196, rfl, rfl, rfl, ok_this⟩, ⟨.inl (xs ((i : Int) + 1).toNat), rfl, rfl, rfl, ok_full32 _⟩, ⟨.inl (xs ((i : Int) + 2).toNat), rfl, rfl, rfl, ok_full32 _⟩, trivial⟩, trivial, fun c hc => by cases hc⟩ rfl (n := 1) (by decide +kernel) (fun v2 g2 t2 G2 X2 M2 => ?_)
  obtain ⟨r2, rfl⟩ := ct_1 t2
  show u_X (some (xs, L)) 100 276 798 lv [.inr (.inl r2)] g2 P
  refine u_0 qL_798 rfl rfl ?_
  show u_X (some (xs, L)) 100 276 799 lv [] g2 P
  refine u_1 qL_799 rfl (pb_goto (pc := 799) (by decide)) ?_
  show u_X (some (xs, L)) 100 276 1313 lv [] g2 P
  exact hC _ G2 X2
set_option maxHeartbeats 4000000 in
theorem lo_op18 {xs : Nat → Int32} {L : Nat} (hL : L ≤ 3072) {i : Nat} (hi : i + 6 ≤ L) {lv : List (Nat × pv)} (l0 : px_lg lv 0 = some (pvR 1000)) (l1 : px_lg lv 1 = some (pvR 0)) (l2 : px_lg lv 2 = some (pvR 196)) (l3 : px_lg lv 3 = some (oI (i : Int))) {g : pH} (hG : g_I eG g) (hx : xL g) {P : Option pv × pH → Prop} (hC : ∀ g1 : pH, g_I eG g1 → xL g1 → u_X (some (xs, L)) 100 276 1313 lv [] g1 P) : u_X (some (xs, L)) 100 276 802 lv [] g P := by
  refine u_0 qL_802 rfl (ld_a l1) ?_
  refine u_0 qL_803 rfl (ld_a l0) ?_
  refine u_0 qL_804 rfl (ld_i l3) ?_
  refine u_0 qL_805 rfl rfl ?_
  refine u_0 qL_806 rfl pu_add ?_
  refine u_0 qL_807 rfl (pq_sa hL ⟨by omega, by omega⟩) ?_
  refine u_0 qL_808 rfl (ld_a l0) ?_
  refine u_0 qL_809 rfl (ld_i l3) ?_
  refine u_0 qL_810 rfl rfl ?_
  refine u_0 qL_811 rfl pu_add ?_
  refine u_0 qL_812 rfl (pq_sa hL ⟨by omega, by omega⟩) ?_
  refine u_3 qL_813 rfl (ar := ([pvR 0, .inl (xs ((i : Int) + 1).toNat), .inl (xs ((i : Int) + 2).toNat)], [])) (pcal_w (as := [.inl (xs ((i : Int) + 2).toNat), .inl (xs ((i : Int) + 1).toNat)]) rfl rfl rfl el_0) ⟨by decide, Nat.le_of_ble_eq_true rfl, Nat.le_of_ble_eq_true rfl, rfl⟩ ?_
  refine kc_go (k := kk_36) in_k36 rfl (by decide) hG hx (vs := [pvR 0, .inl (xs ((i : Int) + 1).toNat), .inl (xs ((i : Int) + 2).toNat)]) (xs := [cv (pvR 0), ((xs ((i : Int) + 1).toNat)).toInt, ((xs ((i : Int) + 2).toNat)).toInt]) ⟨by decide, ⟨⟨pvR 0, rfl, rfl, rfl, ok_0⟩, ⟨.inl (xs ((i : Int) + 1).toNat), rfl, rfl, rfl, ok_full32 _⟩, ⟨.inl (xs ((i : Int) + 2).toNat), rfl, rfl, rfl, ok_full32 _⟩, trivial⟩, trivial, fun c hc => by cases hc⟩ rfl (n := 0) (by decide +kernel) (fun v1 g1 t1 G1 X1 M1 => ?_)
  obtain ⟨r1, rfl⟩ := ct_0 t1
  show u_X (some (xs, L)) 100 276 816 lv [.inl r1] g1 P
  refine u_0 qL_816 rfl rfl ?_
  show u_X (some (xs, L)) 100 276 817 lv [] g1 P
  refine u_0 qL_817 rfl (ld_a l2) ?_
  refine u_0 qL_818 rfl (ld_a l0) ?_
  refine u_0 qL_819 rfl (ld_i l3) ?_
  refine u_0 qL_820 rfl rfl ?_
  refine u_0 qL_821 rfl pu_add ?_
  refine u_0 qL_822 rfl (pq_sa hL ⟨by omega, by omega⟩) ?_
  refine u_0 qL_823 rfl (ld_a l0) ?_
  refine u_0 qL_824 rfl (ld_i l3) ?_
  refine u_0 qL_825 rfl rfl ?_
  refine u_0 qL_826 rfl pu_add ?_
  refine u_0 qL_827 rfl (pq_sa hL ⟨by omega, by omega⟩) ?_
  refine u_3 qL_828 rfl (ar := ([pvR 196, .inl (xs ((i : Int) + 1).toNat), .inl (xs ((i : Int) + 2).toNat)], [])) (pcal_w (as := [.inl (xs ((i : Int) + 2).toNat), .inl (xs ((i : Int) + 1).toNat)]) rfl rfl rfl el_196) ⟨by decide, Nat.le_of_ble_eq_true rfl, Nat.le_of_ble_eq_true rfl, rfl⟩ ?_
  refine kc_go (k := kk_37) in_k37 rfl (by decide) G1 X1 (vs := [pvR 196, .inl (xs ((i : Int) + 1).toNat), .inl (xs ((i : Int) + 2).toNat)]) (xs := [cv (pvR 196), ((xs ((i : Int) + 1).toNat)).toInt, ((xs ((i : Int) + 2).toNat)).toInt]) ⟨by decide, ⟨⟨pvR 196, rfl, rfl, rfl, ok_this⟩, ⟨.inl (xs ((i : Int) + 1).toNat), rfl, rfl, rfl, ok_full32 _⟩, ⟨.inl (xs ((i : Int) + 2).toNat), rfl, rfl, rfl, ok_full32 _⟩, trivial⟩, trivial, fun c hc => by cases hc⟩ rfl (n := 0) (by decide +kernel) (fun v2 g2 t2 G2 X2 M2 => ?_)
  obtain ⟨r2, rfl⟩ := ct_0 t2
  show u_X (some (xs, L)) 100 276 831 lv [.inl r2] g2 P
  refine u_0 qL_831 rfl rfl ?_
  show u_X (some (xs, L)) 100 276 832 lv [] g2 P
  refine u_1 qL_832 rfl (pb_goto (pc := 832) (by decide)) ?_
  show u_X (some (xs, L)) 100 276 1313 lv [] g2 P
  exact hC _ G2 X2
set_option maxHeartbeats 4000000 in
theorem lo_op19 {xs : Nat → Int32} {L : Nat} (hL : L ≤ 3072) {i : Nat} (hi : i + 6 ≤ L) {lv : List (Nat × pv)} (l0 : px_lg lv 0 = some (pvR 1000)) (l1 : px_lg lv 1 = some (pvR 0)) (l2 : px_lg lv 2 = some (pvR 196)) (l3 : px_lg lv 3 = some (oI (i : Int))) {g : pH} (hG : g_I eG g) (hx : xL g) {P : Option pv × pH → Prop} (hC : ∀ g1 : pH, g_I eG g1 → xL g1 → u_X (some (xs, L)) 100 276 1313 lv [] g1 P) : u_X (some (xs, L)) 100 276 835 lv [] g P := by
  refine u_0 qL_835 rfl (ld_a l1) ?_
  refine u_0 qL_836 rfl (ld_a l0) ?_
  refine u_0 qL_837 rfl (ld_i l3) ?_
  refine u_0 qL_838 rfl rfl ?_
  refine u_0 qL_839 rfl pu_add ?_
  refine u_0 qL_840 rfl (pq_sa hL ⟨by omega, by omega⟩) ?_
  refine u_0 qL_841 rfl (ld_a l0) ?_
  refine u_0 qL_842 rfl (ld_i l3) ?_
  refine u_0 qL_843 rfl rfl ?_
  refine u_0 qL_844 rfl pu_add ?_
  refine u_0 qL_845 rfl (pq_sa hL ⟨by omega, by omega⟩) ?_
  refine u_3 qL_846 rfl (ar := ([pvR 0, .inl (xs ((i : Int) + 1).toNat), .inl (xs ((i : Int) + 2).toNat)], [])) (pcal_w (as := [.inl (xs ((i : Int) + 2).toNat), .inl (xs ((i : Int) + 1).toNat)]) rfl rfl rfl el_0) ⟨by decide, Nat.le_of_ble_eq_true rfl, Nat.le_of_ble_eq_true rfl, rfl⟩ ?_
  refine kc_go (k := kk_38) in_k38 rfl (by decide) hG hx (vs := [pvR 0, .inl (xs ((i : Int) + 1).toNat), .inl (xs ((i : Int) + 2).toNat)]) (xs := [cv (pvR 0), ((xs ((i : Int) + 1).toNat)).toInt, ((xs ((i : Int) + 2).toNat)).toInt]) ⟨by decide, ⟨⟨pvR 0, rfl, rfl, rfl, ok_0⟩, ⟨.inl (xs ((i : Int) + 1).toNat), rfl, rfl, rfl, ok_full32 _⟩, ⟨.inl (xs ((i : Int) + 2).toNat), rfl, rfl, rfl, ok_full32 _⟩, trivial⟩, trivial, fun c hc => by cases hc⟩ rfl (n := 0) (by decide +kernel) (fun v1 g1 t1 G1 X1 M1 => ?_)
  obtain ⟨r1, rfl⟩ := ct_0 t1
  show u_X (some (xs, L)) 100 276 849 lv [.inl r1] g1 P
  refine u_0 qL_849 rfl rfl ?_
  show u_X (some (xs, L)) 100 276 850 lv [] g1 P
  refine u_0 qL_850 rfl (ld_a l2) ?_
  refine u_0 qL_851 rfl (ld_a l0) ?_
  refine u_0 qL_852 rfl (ld_i l3) ?_
  refine u_0 qL_853 rfl rfl ?_
  refine u_0 qL_854 rfl pu_add ?_
  refine u_0 qL_855 rfl (pq_sa hL ⟨by omega, by omega⟩) ?_
  refine u_0 qL_856 rfl (ld_a l0) ?_
  refine u_0 qL_857 rfl (ld_i l3) ?_
  refine u_0 qL_858 rfl rfl ?_
  refine u_0 qL_859 rfl pu_add ?_
  refine u_0 qL_860 rfl (pq_sa hL ⟨by omega, by omega⟩) ?_
  refine u_3 qL_861 rfl (ar := ([pvR 196, .inl (xs ((i : Int) + 1).toNat), .inl (xs ((i : Int) + 2).toNat)], [])) (pcal_w (as := [.inl (xs ((i : Int) + 2).toNat), .inl (xs ((i : Int) + 1).toNat)]) rfl rfl rfl el_196) ⟨by decide, Nat.le_of_ble_eq_true rfl, Nat.le_of_ble_eq_true rfl, rfl⟩ ?_
  refine kc_go (k := kk_39) in_k39 rfl (by decide) G1 X1 (vs := [pvR 196, .inl (xs ((i : Int) + 1).toNat), .inl (xs ((i : Int) + 2).toNat)]) (xs := [cv (pvR 196), ((xs ((i : Int) + 1).toNat)).toInt, ((xs ((i : Int) + 2).toNat)).toInt]) ⟨by decide, ⟨⟨pvR 196, rfl, rfl, rfl, ok_this⟩, ⟨.inl (xs ((i : Int) + 1).toNat), rfl, rfl, rfl, ok_full32 _⟩, ⟨.inl (xs ((i : Int) + 2).toNat), rfl, rfl, rfl, ok_full32 _⟩, trivial⟩, trivial, fun c hc => by cases hc⟩ rfl (n := 0) (by decide +kernel) (fun v2 g2 t2 G2 X2 M2 => ?_)
  obtain ⟨r2, rfl⟩ := ct_0 t2
  show u_X (some (xs, L)) 100 276 864 lv [.inl r2] g2 P
  refine u_0 qL_864 rfl rfl ?_
  show u_X (some (xs, L)) 100 276 865 lv [] g2 P
  refine u_1 qL_865 rfl (pb_goto (pc := 865) (by decide)) ?_
  show u_X (some (xs, L)) 100 276 1313 lv [] g2 P
  exact hC _ G2 X2
set_option maxHeartbeats 4000000 in
theorem lo_op20 {xs : Nat → Int32} {L : Nat} (hL : L ≤ 3072) {i : Nat} (hi : i + 6 ≤ L) {lv : List (Nat × pv)} (l0 : px_lg lv 0 = some (pvR 1000)) (l1 : px_lg lv 1 = some (pvR 0)) (l2 : px_lg lv 2 = some (pvR 196)) (l3 : px_lg lv 3 = some (oI (i : Int))) {g : pH} (hG : g_I eG g) (hx : xL g) {P : Option pv × pH → Prop} (hC : ∀ g1 : pH, g_I eG g1 → xL g1 → u_X (some (xs, L)) 100 276 1313 lv [] g1 P) : u_X (some (xs, L)) 100 276 868 lv [] g P := by
  refine u_0 qL_868 rfl (ld_a l1) ?_
  refine u_0 qL_869 rfl (ld_a l0) ?_
  refine u_0 qL_870 rfl (ld_i l3) ?_
  refine u_0 qL_871 rfl rfl ?_
  refine u_0 qL_872 rfl pu_add ?_
  refine u_0 qL_873 rfl (pq_sa hL ⟨by omega, by omega⟩) ?_
  refine u_0 qL_874 rfl (ld_a l0) ?_
  refine u_0 qL_875 rfl (ld_i l3) ?_
  refine u_0 qL_876 rfl rfl ?_
  refine u_0 qL_877 rfl pu_add ?_
  refine u_0 qL_878 rfl (pq_sa hL ⟨by omega, by omega⟩) ?_
  refine u_3 qL_879 rfl (ar := ([pvR 0, .inl (xs ((i : Int) + 1).toNat), .inl (xs ((i : Int) + 2).toNat)], [])) (pcal_w (as := [.inl (xs ((i : Int) + 2).toNat), .inl (xs ((i : Int) + 1).toNat)]) rfl rfl rfl el_0) ⟨by decide, Nat.le_of_ble_eq_true rfl, Nat.le_of_ble_eq_true rfl, rfl⟩ ?_
  refine kc_go (k := kk_34) in_k34 rfl (by decide) hG hx (vs := [pvR 0, .inl (xs ((i : Int) + 1).toNat), .inl (xs ((i : Int) + 2).toNat)]) (xs := [cv (pvR 0), ((xs ((i : Int) + 1).toNat)).toInt, ((xs ((i : Int) + 2).toNat)).toInt]) ⟨by decide, ⟨⟨pvR 0, rfl, rfl, rfl, ok_0⟩, ⟨.inl (xs ((i : Int) + 1).toNat), rfl, rfl, rfl, ok_full32 _⟩, ⟨.inl (xs ((i : Int) + 2).toNat), rfl, rfl, rfl, ok_full32 _⟩, trivial⟩, trivial, fun c hc => by cases hc⟩ rfl (n := 1) (by decide +kernel) (fun v1 g1 t1 G1 X1 M1 => ?_)
  obtain ⟨r1, rfl⟩ := ct_1 t1
  show u_X (some (xs, L)) 100 276 882 lv [.inr (.inl r1)] g1 P
  refine u_0 qL_882 rfl rfl ?_
  show u_X (some (xs, L)) 100 276 883 lv [] g1 P
  refine u_0 qL_883 rfl (ld_a l2) ?_
  refine u_0 qL_884 rfl (ld_a l0) ?_
  refine u_0 qL_885 rfl (ld_i l3) ?_
  refine u_0 qL_886 rfl rfl ?_
  refine u_0 qL_887 rfl pu_add ?_
  refine u_0 qL_888 rfl (pq_sa hL ⟨by omega, by omega⟩) ?_
  refine u_0 qL_889 rfl (ld_a l0) ?_
  refine u_0 qL_890 rfl (ld_i l3) ?_
  refine u_0 qL_891 rfl rfl ?_
  refine u_0 qL_892 rfl pu_add ?_
  refine u_0 qL_893 rfl (pq_sa hL ⟨by omega, by omega⟩) ?_
  refine u_3 qL_894 rfl (ar := ([pvR 196, .inl (xs ((i : Int) + 1).toNat), .inl (xs ((i : Int) + 2).toNat)], [])) (pcal_w (as := [.inl (xs ((i : Int) + 2).toNat), .inl (xs ((i : Int) + 1).toNat)]) rfl rfl rfl el_196) ⟨by decide, Nat.le_of_ble_eq_true rfl, Nat.le_of_ble_eq_true rfl, rfl⟩ ?_
  refine kc_go (k := kk_35) in_k35 rfl (by decide) G1 X1 (vs := [pvR 196, .inl (xs ((i : Int) + 1).toNat), .inl (xs ((i : Int) + 2).toNat)]) (xs := [cv (pvR 196), ((xs ((i : Int) + 1).toNat)).toInt, ((xs ((i : Int) + 2).toNat)).toInt]) ⟨by decide, ⟨⟨pvR 196, rfl, rfl, rfl, ok_this⟩, ⟨.inl (xs ((i : Int) + 1).toNat), rfl, rfl, rfl, ok_full32 _⟩, ⟨.inl (xs ((i : Int) + 2).toNat), rfl, rfl, rfl, ok_full32 _⟩, trivial⟩, trivial, fun c hc => by cases hc⟩ rfl (n := 1) (by decide +kernel) (fun v2 g2 t2 G2 X2 M2 => ?_)
  obtain ⟨r2, rfl⟩ := ct_1 t2
  show u_X (some (xs, L)) 100 276 897 lv [.inr (.inl r2)] g2 P
  refine u_0 qL_897 rfl rfl ?_
  show u_X (some (xs, L)) 100 276 898 lv [] g2 P
  refine u_1 qL_898 rfl (pb_goto (pc := 898) (by decide)) ?_
  show u_X (some (xs, L)) 100 276 1313 lv [] g2 P
  exact hC _ G2 X2
set_option maxHeartbeats 4000000 in
theorem lo_op21 {xs : Nat → Int32} {L : Nat} (hL : L ≤ 3072) {i : Nat} (hi : i + 6 ≤ L) {lv : List (Nat × pv)} (l0 : px_lg lv 0 = some (pvR 1000)) (l1 : px_lg lv 1 = some (pvR 0)) (l2 : px_lg lv 2 = some (pvR 196)) (l3 : px_lg lv 3 = some (oI (i : Int))) {g : pH} (hG : g_I eG g) (hx : xL g) {P : Option pv × pH → Prop} (hC : ∀ g1 : pH, g_I eG g1 → xL g1 → u_X (some (xs, L)) 100 276 1313 lv [] g1 P) : u_X (some (xs, L)) 100 276 901 lv [] g P := by
  refine u_0 qL_901 rfl (ld_a l1) ?_
  refine u_0 qL_902 rfl (ld_a l0) ?_
  refine u_0 qL_903 rfl (ld_i l3) ?_
  refine u_0 qL_904 rfl rfl ?_
  refine u_0 qL_905 rfl pu_add ?_
  refine u_0 qL_906 rfl (pq_sa hL ⟨by omega, by omega⟩) ?_
  refine u_0 qL_907 rfl (ld_a l0) ?_
  refine u_0 qL_908 rfl (ld_i l3) ?_
  refine u_0 qL_909 rfl rfl ?_
  refine u_0 qL_910 rfl pu_add ?_
  refine u_0 qL_911 rfl (pq_sa hL ⟨by omega, by omega⟩) ?_
  refine u_3 qL_912 rfl (ar := ([pvR 0, .inl (xs ((i : Int) + 1).toNat), .inl (xs ((i : Int) + 2).toNat)], [])) (pcal_w (as := [.inl (xs ((i : Int) + 2).toNat), .inl (xs ((i : Int) + 1).toNat)]) rfl rfl rfl el_0) ⟨by decide, Nat.le_of_ble_eq_true rfl, Nat.le_of_ble_eq_true rfl, rfl⟩ ?_
  refine kc_go (k := kk_40) in_k40 rfl (by decide) hG hx (vs := [pvR 0, .inl (xs ((i : Int) + 1).toNat), .inl (xs ((i : Int) + 2).toNat)]) (xs := [cv (pvR 0), ((xs ((i : Int) + 1).toNat)).toInt, ((xs ((i : Int) + 2).toNat)).toInt]) ⟨by decide, ⟨⟨pvR 0, rfl, rfl, rfl, ok_0⟩, ⟨.inl (xs ((i : Int) + 1).toNat), rfl, rfl, rfl, ok_full32 _⟩, ⟨.inl (xs ((i : Int) + 2).toNat), rfl, rfl, rfl, ok_full32 _⟩, trivial⟩, trivial, fun c hc => by cases hc⟩ rfl (n := 0) (by decide +kernel) (fun v1 g1 t1 G1 X1 M1 => ?_)
  obtain ⟨r1, rfl⟩ := ct_0 t1
  show u_X (some (xs, L)) 100 276 915 lv [.inl r1] g1 P
  refine u_0 qL_915 rfl rfl ?_
  show u_X (some (xs, L)) 100 276 916 lv [] g1 P
  refine u_0 qL_916 rfl (ld_a l2) ?_
  refine u_0 qL_917 rfl (ld_a l0) ?_
  refine u_0 qL_918 rfl (ld_i l3) ?_
  refine u_0 qL_919 rfl rfl ?_
  refine u_0 qL_920 rfl pu_add ?_
  refine u_0 qL_921 rfl (pq_sa hL ⟨by omega, by omega⟩) ?_
  refine u_0 qL_922 rfl (ld_a l0) ?_
  refine u_0 qL_923 rfl (ld_i l3) ?_
  refine u_0 qL_924 rfl rfl ?_
  refine u_0 qL_925 rfl pu_add ?_
  refine u_0 qL_926 rfl (pq_sa hL ⟨by omega, by omega⟩) ?_
  refine u_3 qL_927 rfl (ar := ([pvR 196, .inl (xs ((i : Int) + 1).toNat), .inl (xs ((i : Int) + 2).toNat)], [])) (pcal_w (as := [.inl (xs ((i : Int) + 2).toNat), .inl (xs ((i : Int) + 1).toNat)]) rfl rfl rfl el_196) ⟨by decide, Nat.le_of_ble_eq_true rfl, Nat.le_of_ble_eq_true rfl, rfl⟩ ?_
  refine kc_go (k := kk_41) in_k41 rfl (by decide) G1 X1 (vs := [pvR 196, .inl (xs ((i : Int) + 1).toNat), .inl (xs ((i : Int) + 2).toNat)]) (xs := [cv (pvR 196), ((xs ((i : Int) + 1).toNat)).toInt, ((xs ((i : Int) + 2).toNat)).toInt]) ⟨by decide, ⟨⟨pvR 196, rfl, rfl, rfl, ok_this⟩, ⟨.inl (xs ((i : Int) + 1).toNat), rfl, rfl, rfl, ok_full32 _⟩, ⟨.inl (xs ((i : Int) + 2).toNat), rfl, rfl, rfl, ok_full32 _⟩, trivial⟩, trivial, fun c hc => by cases hc⟩ rfl (n := 0) (by decide +kernel) (fun v2 g2 t2 G2 X2 M2 => ?_)
  obtain ⟨r2, rfl⟩ := ct_0 t2
  show u_X (some (xs, L)) 100 276 930 lv [.inl r2] g2 P
  refine u_0 qL_930 rfl rfl ?_
  show u_X (some (xs, L)) 100 276 931 lv [] g2 P
  refine u_1 qL_931 rfl (pb_goto (pc := 931) (by decide)) ?_
  show u_X (some (xs, L)) 100 276 1313 lv [] g2 P
  exact hC _ G2 X2
set_option maxHeartbeats 4000000 in
theorem lo_op22 {xs : Nat → Int32} {L : Nat} (hL : L ≤ 3072) {i : Nat} (hi : i + 6 ≤ L) {lv : List (Nat × pv)} (l0 : px_lg lv 0 = some (pvR 1000)) (l1 : px_lg lv 1 = some (pvR 0)) (l2 : px_lg lv 2 = some (pvR 196)) (l3 : px_lg lv 3 = some (oI (i : Int))) {g : pH} (hG : g_I eG g) (hx : xL g) {P : Option pv × pH → Prop} (hC : ∀ g1 : pH, g_I eG g1 → xL g1 → u_X (some (xs, L)) 100 276 1313 lv [] g1 P) : u_X (some (xs, L)) 100 276 934 lv [] g P := by
  refine u_0 qL_934 rfl (ld_a l1) ?_
  refine u_0 qL_935 rfl (ld_a l0) ?_
  refine u_0 qL_936 rfl (ld_i l3) ?_
  refine u_0 qL_937 rfl rfl ?_
  refine u_0 qL_938 rfl pu_add ?_
  refine u_0 qL_939 rfl (pq_sa hL ⟨by omega, by omega⟩) ?_
  refine u_0 qL_940 rfl (ld_a l0) ?_
  refine u_0 qL_941 rfl (ld_i l3) ?_
  refine u_0 qL_942 rfl rfl ?_
  refine u_0 qL_943 rfl pu_add ?_
  refine u_0 qL_944 rfl (pq_sa hL ⟨by omega, by omega⟩) ?_
  refine u_3 qL_945 rfl (ar := ([pvR 0, .inl (xs ((i : Int) + 1).toNat), .inl (xs ((i : Int) + 2).toNat)], [])) (pcal_w (as := [.inl (xs ((i : Int) + 2).toNat), .inl (xs ((i : Int) + 1).toNat)]) rfl rfl rfl el_0) ⟨by decide, Nat.le_of_ble_eq_true rfl, Nat.le_of_ble_eq_true rfl, rfl⟩ ?_
  refine kc_go (k := kk_42) in_k42 rfl (by decide) hG hx (vs := [pvR 0, .inl (xs ((i : Int) + 1).toNat), .inl (xs ((i : Int) + 2).toNat)]) (xs := [cv (pvR 0), ((xs ((i : Int) + 1).toNat)).toInt, ((xs ((i : Int) + 2).toNat)).toInt]) ⟨by decide, ⟨⟨pvR 0, rfl, rfl, rfl, ok_0⟩, ⟨.inl (xs ((i : Int) + 1).toNat), rfl, rfl, rfl, ok_full32 _⟩, ⟨.inl (xs ((i : Int) + 2).toNat), rfl, rfl, rfl, ok_full32 _⟩, trivial⟩, trivial, fun c hc => by cases hc⟩ rfl (n := 1) (by decide +kernel) (fun v1 g1 t1 G1 X1 M1 => ?_)
  obtain ⟨r1, rfl⟩ := ct_1 t1
  show u_X (some (xs, L)) 100 276 948 lv [.inr (.inl r1)] g1 P
  refine u_0 qL_948 rfl rfl ?_
  show u_X (some (xs, L)) 100 276 949 lv [] g1 P
  refine u_0 qL_949 rfl (ld_a l2) ?_
  refine u_0 qL_950 rfl (ld_a l0) ?_
  refine u_0 qL_951 rfl (ld_i l3) ?_
  refine u_0 qL_952 rfl rfl ?_
  refine u_0 qL_953 rfl pu_add ?_
  refine u_0 qL_954 rfl (pq_sa hL ⟨by omega, by omega⟩) ?_
  refine u_0 qL_955 rfl (ld_a l0) ?_
  refine u_0 qL_956 rfl (ld_i l3) ?_
  refine u_0 qL_957 rfl rfl ?_
  refine u_0 qL_958 rfl pu_add ?_
  refine u_0 qL_959 rfl (pq_sa hL ⟨by omega, by omega⟩) ?_
  refine u_3 qL_960 rfl (ar := ([pvR 196, .inl (xs ((i : Int) + 1).toNat), .inl (xs ((i : Int) + 2).toNat)], [])) (pcal_w (as := [.inl (xs ((i : Int) + 2).toNat), .inl (xs ((i : Int) + 1).toNat)]) rfl rfl rfl el_196) ⟨by decide, Nat.le_of_ble_eq_true rfl, Nat.le_of_ble_eq_true rfl, rfl⟩ ?_
  refine sp_run (by decide) G1 (n := ((xs ((i : Int) + 1).toNat)).toInt) (w := ((xs ((i : Int) + 2).toNat)).toInt) (i32_b _) (i32_b _) (fun g2 z2 J2 => ?_) rfl (congrArg some (oI_r _)) (congrArg some (oI_r _))
  have X2 := xL_K _ _ _ J2.2 Ws_1.2.1 X1
  have G2 := J2.1
  show u_X (some (xs, L)) 100 276 963 lv [.inr (.inl z2)] g2 P
  refine u_0 qL_963 rfl rfl ?_
  show u_X (some (xs, L)) 100 276 964 lv [] g2 P
  refine u_1 qL_964 rfl (pb_goto (pc := 964) (by decide)) ?_
  show u_X (some (xs, L)) 100 276 1313 lv [] g2 P
  exact hC _ G2 X2
set_option maxHeartbeats 4000000 in
theorem lo_op23 {xs : Nat → Int32} {L : Nat} (hL : L ≤ 3072) {i : Nat} (hi : i + 6 ≤ L) {lv : List (Nat × pv)} (l0 : px_lg lv 0 = some (pvR 1000)) (l1 : px_lg lv 1 = some (pvR 0)) (l2 : px_lg lv 2 = some (pvR 196)) (l3 : px_lg lv 3 = some (oI (i : Int))) {g : pH} (hG : g_I eG g) (hx : xL g) {P : Option pv × pH → Prop} (hC : ∀ g1 : pH, g_I eG g1 → xL g1 → u_X (some (xs, L)) 100 276 1313 lv [] g1 P) : u_X (some (xs, L)) 100 276 967 lv [] g P := by
  refine u_0 qL_967 rfl (ld_a l1) ?_
  refine u_0 qL_968 rfl (ld_a l0) ?_
  refine u_0 qL_969 rfl (ld_i l3) ?_
  refine u_0 qL_970 rfl rfl ?_
  refine u_0 qL_971 rfl pu_add ?_
  refine u_0 qL_972 rfl (pq_sa hL ⟨by omega, by omega⟩) ?_
  refine u_0 qL_973 rfl (ld_a l0) ?_
  refine u_0 qL_974 rfl (ld_i l3) ?_
  refine u_0 qL_975 rfl rfl ?_
  refine u_0 qL_976 rfl pu_add ?_
  refine u_0 qL_977 rfl (pq_sa hL ⟨by omega, by omega⟩) ?_
  refine u_0 qL_978 rfl (ld_a l0) ?_
  refine u_0 qL_979 rfl (ld_i l3) ?_
  refine u_0 qL_980 rfl rfl ?_
  refine u_0 qL_981 rfl pu_add ?_
  refine u_0 qL_982 rfl (pq_sa hL ⟨by omega, by omega⟩) ?_
  refine u_0 qL_983 rfl (ld_a l0) ?_
  refine u_0 qL_984 rfl (ld_i l3) ?_
  refine u_0 qL_985 rfl rfl ?_
  refine u_0 qL_986 rfl pu_add ?_
  refine u_0 qL_987 rfl (pq_sa hL ⟨by omega, by omega⟩) ?_
  refine u_3 qL_988 rfl (ar := ([pvR 0, .inl (xs ((i : Int) + 1).toNat), .inl (xs ((i : Int) + 2).toNat), .inl (xs ((i : Int) + 3).toNat), .inl (xs ((i : Int) + 4).toNat)], [])) (pcal_w (as := [.inl (xs ((i : Int) + 4).toNat), .inl (xs ((i : Int) + 3).toNat), .inl (xs ((i : Int) + 2).toNat), .inl (xs ((i : Int) + 1).toNat)]) rfl rfl rfl el_0) ⟨by decide, Nat.le_of_ble_eq_true rfl, Nat.le_of_ble_eq_true rfl, rfl⟩ ?_
  refine kc_go (k := kk_43) in_k43 rfl (by decide) hG hx (vs := [pvR 0, .inl (xs ((i : Int) + 1).toNat), .inl (xs ((i : Int) + 2).toNat), .inl (xs ((i : Int) + 3).toNat), .inl (xs ((i : Int) + 4).toNat)]) (xs := [cv (pvR 0), ((xs ((i : Int) + 1).toNat)).toInt, ((xs ((i : Int) + 2).toNat)).toInt, ((xs ((i : Int) + 3).toNat)).toInt, ((xs ((i : Int) + 4).toNat)).toInt]) ⟨by decide, ⟨⟨pvR 0, rfl, rfl, rfl, ok_0⟩, ⟨.inl (xs ((i : Int) + 1).toNat), rfl, rfl, rfl, ok_full32 _⟩, ⟨.inl (xs ((i : Int) + 2).toNat), rfl, rfl, rfl, ok_full32 _⟩, ⟨.inl (xs ((i : Int) + 3).toNat), rfl, rfl, rfl, ok_full32 _⟩, ⟨.inl (xs ((i : Int) + 4).toNat), rfl, rfl, rfl, ok_full32 _⟩, trivial⟩, trivial, fun c hc => by cases hc⟩ rfl (n := 1) (by decide +kernel) (fun v1 g1 t1 G1 X1 M1 => ?_)
  obtain ⟨r1, rfl⟩ := ct_1 t1
  show u_X (some (xs, L)) 100 276 991 lv [.inr (.inl r1)] g1 P
  refine u_0 qL_991 rfl rfl ?_
  show u_X (some (xs, L)) 100 276 992 lv [] g1 P
  refine u_0 qL_992 rfl (ld_a l2) ?_
  refine u_0 qL_993 rfl (ld_a l0) ?_
  refine u_0 qL_994 rfl (ld_i l3) ?_
  refine u_0 qL_995 rfl rfl ?_
  refine u_0 qL_996 rfl pu_add ?_
  refine u_0 qL_997 rfl (pq_sa hL ⟨by omega, by omega⟩) ?_
  refine u_0 qL_998 rfl (ld_a l0) ?_
  refine u_0 qL_999 rfl (ld_i l3) ?_
  refine u_0 qL_1000 rfl rfl ?_
  refine u_0 qL_1001 rfl pu_add ?_
  refine u_0 qL_1002 rfl (pq_sa hL ⟨by omega, by omega⟩) ?_
  refine u_0 qL_1003 rfl (ld_a l0) ?_
  refine u_0 qL_1004 rfl (ld_i l3) ?_
  refine u_0 qL_1005 rfl rfl ?_
  refine u_0 qL_1006 rfl pu_add ?_
  refine u_0 qL_1007 rfl (pq_sa hL ⟨by omega, by omega⟩) ?_
  refine u_0 qL_1008 rfl (ld_a l0) ?_
  refine u_0 qL_1009 rfl (ld_i l3) ?_
  refine u_0 qL_1010 rfl rfl ?_
  refine u_0 qL_1011 rfl pu_add ?_
  refine u_0 qL_1012 rfl (pq_sa hL ⟨by omega, by omega⟩) ?_
  refine u_3 qL_1013 rfl (ar := ([pvR 196, .inl (xs ((i : Int) + 1).toNat), .inl (xs ((i : Int) + 2).toNat), .inl (xs ((i : Int) + 3).toNat), .inl (xs ((i : Int) + 4).toNat)], [])) (pcal_w (as := [.inl (xs ((i : Int) + 4).toNat), .inl (xs ((i : Int) + 3).toNat), .inl (xs ((i : Int) + 2).toNat), .inl (xs ((i : Int) + 1).toNat)]) rfl rfl rfl el_196) ⟨by decide, Nat.le_of_ble_eq_true rfl, Nat.le_of_ble_eq_true rfl, rfl⟩ ?_
  refine sy_run (by decide) G1 (n := ((xs ((i : Int) + 1).toNat)).toInt) (i := ((xs ((i : Int) + 2).toNat)).toInt) (j := ((xs ((i : Int) + 3).toNat)).toInt) (w := ((xs ((i : Int) + 4).toNat)).toInt) (i32_b _) (i32_b _) (i32_b _) (i32_b _) (fun g2 z2 J2 => ?_) rfl (congrArg some (oI_r _)) (congrArg some (oI_r _)) (congrArg some (oI_r _)) (congrArg some (oI_r _))
  have X2 := xL_K _ _ _ J2.2 Ws_1.2.1 X1
  have G2 := J2.1
  show u_X (some (xs, L)) 100 276 1016 lv [.inr (.inl z2)] g2 P
  refine u_0 qL_1016 rfl rfl ?_
  show u_X (some (xs, L)) 100 276 1017 lv [] g2 P
  refine u_1 qL_1017 rfl (pb_goto (pc := 1017) (by decide)) ?_
  show u_X (some (xs, L)) 100 276 1313 lv [] g2 P
  exact hC _ G2 X2
set_option maxHeartbeats 4000000 in
theorem lo_op24 {xs : Nat → Int32} {L : Nat} (hL : L ≤ 3072) {i : Nat} (hi : i + 6 ≤ L) {lv : List (Nat × pv)} (l0 : px_lg lv 0 = some (pvR 1000)) (l1 : px_lg lv 1 = some (pvR 0)) (l2 : px_lg lv 2 = some (pvR 196)) (l3 : px_lg lv 3 = some (oI (i : Int))) {g : pH} (hG : g_I eG g) (hx : xL g) {P : Option pv × pH → Prop} (hC : ∀ g1 : pH, g_I eG g1 → xL g1 → u_X (some (xs, L)) 100 276 1313 lv [] g1 P) : u_X (some (xs, L)) 100 276 1020 lv [] g P := by
  refine u_0 qL_1020 rfl (ld_a l1) ?_
  refine u_0 qL_1021 rfl (ld_a l0) ?_
  refine u_0 qL_1022 rfl (ld_i l3) ?_
  refine u_0 qL_1023 rfl rfl ?_
  refine u_0 qL_1024 rfl pu_add ?_
  refine u_0 qL_1025 rfl (pq_sa hL ⟨by omega, by omega⟩) ?_
  refine u_0 qL_1026 rfl (ld_a l0) ?_
  refine u_0 qL_1027 rfl (ld_i l3) ?_
  refine u_0 qL_1028 rfl rfl ?_
  refine u_0 qL_1029 rfl pu_add ?_
  refine u_0 qL_1030 rfl (pq_sa hL ⟨by omega, by omega⟩) ?_
  refine u_0 qL_1031 rfl (ld_a l0) ?_
  refine u_0 qL_1032 rfl (ld_i l3) ?_
  refine u_0 qL_1033 rfl rfl ?_
  refine u_0 qL_1034 rfl pu_add ?_
  refine u_0 qL_1035 rfl (pq_sa hL ⟨by omega, by omega⟩) ?_
  refine u_3 qL_1036 rfl (ar := ([pvR 0, .inl (xs ((i : Int) + 1).toNat), .inl (xs ((i : Int) + 2).toNat), .inl (xs ((i : Int) + 3).toNat)], [])) (pcal_w (as := [.inl (xs ((i : Int) + 3).toNat), .inl (xs ((i : Int) + 2).toNat), .inl (xs ((i : Int) + 1).toNat)]) rfl rfl rfl el_0) ⟨by decide, Nat.le_of_ble_eq_true rfl, Nat.le_of_ble_eq_true rfl, rfl⟩ ?_
  refine kc_go (k := kk_44) in_k44 rfl (by decide) hG hx (vs := [pvR 0, .inl (xs ((i : Int) + 1).toNat), .inl (xs ((i : Int) + 2).toNat), .inl (xs ((i : Int) + 3).toNat)]) (xs := [cv (pvR 0), ((xs ((i : Int) + 1).toNat)).toInt, ((xs ((i : Int) + 2).toNat)).toInt, ((xs ((i : Int) + 3).toNat)).toInt]) ⟨by decide, ⟨⟨pvR 0, rfl, rfl, rfl, ok_0⟩, ⟨.inl (xs ((i : Int) + 1).toNat), rfl, rfl, rfl, ok_full32 _⟩, ⟨.inl (xs ((i : Int) + 2).toNat), rfl, rfl, rfl, ok_full32 _⟩, ⟨.inl (xs ((i : Int) + 3).toNat), rfl, rfl, rfl, ok_full32 _⟩, trivial⟩, trivial, fun c hc => by cases hc⟩ rfl (n := 0) (by decide +kernel) (fun v1 g1 t1 G1 X1 M1 => ?_)
  obtain ⟨r1, rfl⟩ := ct_0 t1
  show u_X (some (xs, L)) 100 276 1039 lv [.inl r1] g1 P
  refine u_0 qL_1039 rfl rfl ?_
  show u_X (some (xs, L)) 100 276 1040 lv [] g1 P
  refine u_0 qL_1040 rfl (ld_a l2) ?_
  refine u_0 qL_1041 rfl (ld_a l0) ?_
  refine u_0 qL_1042 rfl (ld_i l3) ?_
  refine u_0 qL_1043 rfl rfl ?_
  refine u_0 qL_1044 rfl pu_add ?_
  refine u_0 qL_1045 rfl (pq_sa hL ⟨by omega, by omega⟩) ?_
  refine u_0 qL_1046 rfl (ld_a l0) ?_
  refine u_0 qL_1047 rfl (ld_i l3) ?_
  refine u_0 qL_1048 rfl rfl ?_
  refine u_0 qL_1049 rfl pu_add ?_
  refine u_0 qL_1050 rfl (pq_sa hL ⟨by omega, by omega⟩) ?_
  refine u_0 qL_1051 rfl (ld_a l0) ?_
  refine u_0 qL_1052 rfl (ld_i l3) ?_
  refine u_0 qL_1053 rfl rfl ?_
  refine u_0 qL_1054 rfl pu_add ?_
  refine u_0 qL_1055 rfl (pq_sa hL ⟨by omega, by omega⟩) ?_
  refine u_3 qL_1056 rfl (ar := ([pvR 196, .inl (xs ((i : Int) + 1).toNat), .inl (xs ((i : Int) + 2).toNat), .inl (xs ((i : Int) + 3).toNat)], [])) (pcal_w (as := [.inl (xs ((i : Int) + 3).toNat), .inl (xs ((i : Int) + 2).toNat), .inl (xs ((i : Int) + 1).toNat)]) rfl rfl rfl el_196) ⟨by decide, Nat.le_of_ble_eq_true rfl, Nat.le_of_ble_eq_true rfl, rfl⟩ ?_
  refine kc_go (k := kk_45) in_k45 rfl (by decide) G1 X1 (vs := [pvR 196, .inl (xs ((i : Int) + 1).toNat), .inl (xs ((i : Int) + 2).toNat), .inl (xs ((i : Int) + 3).toNat)]) (xs := [cv (pvR 196), ((xs ((i : Int) + 1).toNat)).toInt, ((xs ((i : Int) + 2).toNat)).toInt, ((xs ((i : Int) + 3).toNat)).toInt]) ⟨by decide, ⟨⟨pvR 196, rfl, rfl, rfl, ok_this⟩, ⟨.inl (xs ((i : Int) + 1).toNat), rfl, rfl, rfl, ok_full32 _⟩, ⟨.inl (xs ((i : Int) + 2).toNat), rfl, rfl, rfl, ok_full32 _⟩, ⟨.inl (xs ((i : Int) + 3).toNat), rfl, rfl, rfl, ok_full32 _⟩, trivial⟩, trivial, fun c hc => by cases hc⟩ rfl (n := 0) (by decide +kernel) (fun v2 g2 t2 G2 X2 M2 => ?_)
  obtain ⟨r2, rfl⟩ := ct_0 t2
  show u_X (some (xs, L)) 100 276 1059 lv [.inl r2] g2 P
  refine u_0 qL_1059 rfl rfl ?_
  show u_X (some (xs, L)) 100 276 1060 lv [] g2 P
  refine u_1 qL_1060 rfl (pb_goto (pc := 1060) (by decide)) ?_
  show u_X (some (xs, L)) 100 276 1313 lv [] g2 P
  exact hC _ G2 X2
set_option maxHeartbeats 4000000 in
theorem lo_op25 {xs : Nat → Int32} {L : Nat} (hL : L ≤ 3072) {i : Nat} (hi : i + 6 ≤ L) {lv : List (Nat × pv)} (l0 : px_lg lv 0 = some (pvR 1000)) (l1 : px_lg lv 1 = some (pvR 0)) (l2 : px_lg lv 2 = some (pvR 196)) (l3 : px_lg lv 3 = some (oI (i : Int))) {g : pH} (hG : g_I eG g) (hx : xL g) {P : Option pv × pH → Prop} (hC : ∀ g1 : pH, g_I eG g1 → xL g1 → u_X (some (xs, L)) 100 276 1313 lv [] g1 P) : u_X (some (xs, L)) 100 276 1063 lv [] g P := by
  refine u_0 qL_1063 rfl (ld_a l1) ?_
  refine u_0 qL_1064 rfl (ld_a l0) ?_
  refine u_0 qL_1065 rfl (ld_i l3) ?_
  refine u_0 qL_1066 rfl rfl ?_
  refine u_0 qL_1067 rfl pu_add ?_
  refine u_0 qL_1068 rfl (pq_sa hL ⟨by omega, by omega⟩) ?_
  refine u_0 qL_1069 rfl (ld_a l0) ?_
  refine u_0 qL_1070 rfl (ld_i l3) ?_
  refine u_0 qL_1071 rfl rfl ?_
  refine u_0 qL_1072 rfl pu_add ?_
  refine u_0 qL_1073 rfl (pq_sa hL ⟨by omega, by omega⟩) ?_
  refine u_3 qL_1074 rfl (ar := ([pvR 0, .inl (xs ((i : Int) + 1).toNat), .inl (xs ((i : Int) + 2).toNat)], [])) (pcal_w (as := [.inl (xs ((i : Int) + 2).toNat), .inl (xs ((i : Int) + 1).toNat)]) rfl rfl rfl el_0) ⟨by decide, Nat.le_of_ble_eq_true rfl, Nat.le_of_ble_eq_true rfl, rfl⟩ ?_
  refine kc_go (k := kk_46) in_k46 rfl (by decide) hG hx (vs := [pvR 0, .inl (xs ((i : Int) + 1).toNat), .inl (xs ((i : Int) + 2).toNat)]) (xs := [cv (pvR 0), ((xs ((i : Int) + 1).toNat)).toInt, ((xs ((i : Int) + 2).toNat)).toInt]) ⟨by decide, ⟨⟨pvR 0, rfl, rfl, rfl, ok_0⟩, ⟨.inl (xs ((i : Int) + 1).toNat), rfl, rfl, rfl, ok_full32 _⟩, ⟨.inl (xs ((i : Int) + 2).toNat), rfl, rfl, rfl, ok_full32 _⟩, trivial⟩, trivial, fun c hc => by cases hc⟩ rfl (n := 0) (by decide +kernel) (fun v1 g1 t1 G1 X1 M1 => ?_)
  obtain ⟨r1, rfl⟩ := ct_0 t1
  show u_X (some (xs, L)) 100 276 1077 lv [.inl r1] g1 P
  refine u_0 qL_1077 rfl rfl ?_
  show u_X (some (xs, L)) 100 276 1078 lv [] g1 P
  refine u_0 qL_1078 rfl (ld_a l2) ?_
  refine u_0 qL_1079 rfl (ld_a l0) ?_
  refine u_0 qL_1080 rfl (ld_i l3) ?_
  refine u_0 qL_1081 rfl rfl ?_
  refine u_0 qL_1082 rfl pu_add ?_
  refine u_0 qL_1083 rfl (pq_sa hL ⟨by omega, by omega⟩) ?_
  refine u_0 qL_1084 rfl (ld_a l0) ?_
  refine u_0 qL_1085 rfl (ld_i l3) ?_
  refine u_0 qL_1086 rfl rfl ?_
  refine u_0 qL_1087 rfl pu_add ?_
  refine u_0 qL_1088 rfl (pq_sa hL ⟨by omega, by omega⟩) ?_
  refine u_3 qL_1089 rfl (ar := ([pvR 196, .inl (xs ((i : Int) + 1).toNat), .inl (xs ((i : Int) + 2).toNat)], [])) (pcal_w (as := [.inl (xs ((i : Int) + 2).toNat), .inl (xs ((i : Int) + 1).toNat)]) rfl rfl rfl el_196) ⟨by decide, Nat.le_of_ble_eq_true rfl, Nat.le_of_ble_eq_true rfl, rfl⟩ ?_
  refine kc_go (k := kk_47) in_k47 rfl (by decide) G1 X1 (vs := [pvR 196, .inl (xs ((i : Int) + 1).toNat), .inl (xs ((i : Int) + 2).toNat)]) (xs := [cv (pvR 196), ((xs ((i : Int) + 1).toNat)).toInt, ((xs ((i : Int) + 2).toNat)).toInt]) ⟨by decide, ⟨⟨pvR 196, rfl, rfl, rfl, ok_this⟩, ⟨.inl (xs ((i : Int) + 1).toNat), rfl, rfl, rfl, ok_full32 _⟩, ⟨.inl (xs ((i : Int) + 2).toNat), rfl, rfl, rfl, ok_full32 _⟩, trivial⟩, trivial, fun c hc => by cases hc⟩ rfl (n := 0) (by decide +kernel) (fun v2 g2 t2 G2 X2 M2 => ?_)
  obtain ⟨r2, rfl⟩ := ct_0 t2
  show u_X (some (xs, L)) 100 276 1092 lv [.inl r2] g2 P
  refine u_0 qL_1092 rfl rfl ?_
  show u_X (some (xs, L)) 100 276 1093 lv [] g2 P
  refine u_1 qL_1093 rfl (pb_goto (pc := 1093) (by decide)) ?_
  show u_X (some (xs, L)) 100 276 1313 lv [] g2 P
  exact hC _ G2 X2
set_option maxHeartbeats 4000000 in
theorem lo_op26 {xs : Nat → Int32} {L : Nat} (hL : L ≤ 3072) {i : Nat} (hi : i + 6 ≤ L) {lv : List (Nat × pv)} (l0 : px_lg lv 0 = some (pvR 1000)) (l1 : px_lg lv 1 = some (pvR 0)) (l2 : px_lg lv 2 = some (pvR 196)) (l3 : px_lg lv 3 = some (oI (i : Int))) {g : pH} (hG : g_I eG g) (hx : xL g) {P : Option pv × pH → Prop} (hC : ∀ g1 : pH, g_I eG g1 → xL g1 → u_X (some (xs, L)) 100 276 1313 lv [] g1 P) : u_X (some (xs, L)) 100 276 1096 lv [] g P := by
  refine u_0 qL_1096 rfl (ld_a l1) ?_
  refine u_0 qL_1097 rfl (ld_a l0) ?_
  refine u_0 qL_1098 rfl (ld_i l3) ?_
  refine u_0 qL_1099 rfl rfl ?_
  refine u_0 qL_1100 rfl pu_add ?_
  refine u_0 qL_1101 rfl (pq_sa hL ⟨by omega, by omega⟩) ?_
  refine u_0 qL_1102 rfl (ld_a l0) ?_
  refine u_0 qL_1103 rfl (ld_i l3) ?_
  refine u_0 qL_1104 rfl rfl ?_
  refine u_0 qL_1105 rfl pu_add ?_
  refine u_0 qL_1106 rfl (pq_sa hL ⟨by omega, by omega⟩) ?_
  refine u_3 qL_1107 rfl (ar := ([pvR 0, .inl (xs ((i : Int) + 1).toNat), .inl (xs ((i : Int) + 2).toNat)], [])) (pcal_w (as := [.inl (xs ((i : Int) + 2).toNat), .inl (xs ((i : Int) + 1).toNat)]) rfl rfl rfl el_0) ⟨by decide, Nat.le_of_ble_eq_true rfl, Nat.le_of_ble_eq_true rfl, rfl⟩ ?_
  refine kc_go (k := kk_48) in_k48 rfl (by decide) hG hx (vs := [pvR 0, .inl (xs ((i : Int) + 1).toNat), .inl (xs ((i : Int) + 2).toNat)]) (xs := [cv (pvR 0), ((xs ((i : Int) + 1).toNat)).toInt, ((xs ((i : Int) + 2).toNat)).toInt]) ⟨by decide, ⟨⟨pvR 0, rfl, rfl, rfl, ok_0⟩, ⟨.inl (xs ((i : Int) + 1).toNat), rfl, rfl, rfl, ok_full32 _⟩, ⟨.inl (xs ((i : Int) + 2).toNat), rfl, rfl, rfl, ok_full32 _⟩, trivial⟩, trivial, fun c hc => by cases hc⟩ rfl (n := 0) (by decide +kernel) (fun v1 g1 t1 G1 X1 M1 => ?_)
  obtain ⟨r1, rfl⟩ := ct_0 t1
  show u_X (some (xs, L)) 100 276 1110 lv [.inl r1] g1 P
  refine u_0 qL_1110 rfl rfl ?_
  show u_X (some (xs, L)) 100 276 1111 lv [] g1 P
  refine u_0 qL_1111 rfl (ld_a l2) ?_
  refine u_0 qL_1112 rfl (ld_a l0) ?_
  refine u_0 qL_1113 rfl (ld_i l3) ?_
  refine u_0 qL_1114 rfl rfl ?_
  refine u_0 qL_1115 rfl pu_add ?_
  refine u_0 qL_1116 rfl (pq_sa hL ⟨by omega, by omega⟩) ?_
  refine u_0 qL_1117 rfl (ld_a l0) ?_
  refine u_0 qL_1118 rfl (ld_i l3) ?_
  refine u_0 qL_1119 rfl rfl ?_
  refine u_0 qL_1120 rfl pu_add ?_
  refine u_0 qL_1121 rfl (pq_sa hL ⟨by omega, by omega⟩) ?_
  refine u_3 qL_1122 rfl (ar := ([pvR 196, .inl (xs ((i : Int) + 1).toNat), .inl (xs ((i : Int) + 2).toNat)], [])) (pcal_w (as := [.inl (xs ((i : Int) + 2).toNat), .inl (xs ((i : Int) + 1).toNat)]) rfl rfl rfl el_196) ⟨by decide, Nat.le_of_ble_eq_true rfl, Nat.le_of_ble_eq_true rfl, rfl⟩ ?_
  refine kc_go (k := kk_49) in_k49 rfl (by decide) G1 X1 (vs := [pvR 196, .inl (xs ((i : Int) + 1).toNat), .inl (xs ((i : Int) + 2).toNat)]) (xs := [cv (pvR 196), ((xs ((i : Int) + 1).toNat)).toInt, ((xs ((i : Int) + 2).toNat)).toInt]) ⟨by decide, ⟨⟨pvR 196, rfl, rfl, rfl, ok_this⟩, ⟨.inl (xs ((i : Int) + 1).toNat), rfl, rfl, rfl, ok_full32 _⟩, ⟨.inl (xs ((i : Int) + 2).toNat), rfl, rfl, rfl, ok_full32 _⟩, trivial⟩, trivial, fun c hc => by cases hc⟩ rfl (n := 0) (by decide +kernel) (fun v2 g2 t2 G2 X2 M2 => ?_)
  obtain ⟨r2, rfl⟩ := ct_0 t2
  show u_X (some (xs, L)) 100 276 1125 lv [.inl r2] g2 P
  refine u_0 qL_1125 rfl rfl ?_
  show u_X (some (xs, L)) 100 276 1126 lv [] g2 P
  refine u_1 qL_1126 rfl (pb_goto (pc := 1126) (by decide)) ?_
  show u_X (some (xs, L)) 100 276 1313 lv [] g2 P
  exact hC _ G2 X2
set_option maxHeartbeats 4000000 in
theorem lo_op27 {xs : Nat → Int32} {L : Nat} (hL : L ≤ 3072) {i : Nat} (hi : i + 6 ≤ L) {lv : List (Nat × pv)} (l0 : px_lg lv 0 = some (pvR 1000)) (l1 : px_lg lv 1 = some (pvR 0)) (l2 : px_lg lv 2 = some (pvR 196)) (l3 : px_lg lv 3 = some (oI (i : Int))) {g : pH} (hG : g_I eG g) (hx : xL g) {P : Option pv × pH → Prop} (hC : ∀ g1 : pH, g_I eG g1 → xL g1 → u_X (some (xs, L)) 100 276 1313 lv [] g1 P) : u_X (some (xs, L)) 100 276 1129 lv [] g P := by
  refine u_0 qL_1129 rfl (ld_a l1) ?_
  refine u_0 qL_1130 rfl (ld_a l0) ?_
  refine u_0 qL_1131 rfl (ld_i l3) ?_
  refine u_0 qL_1132 rfl rfl ?_
  refine u_0 qL_1133 rfl pu_add ?_
  refine u_0 qL_1134 rfl (pq_sa hL ⟨by omega, by omega⟩) ?_
  refine u_0 qL_1135 rfl (ld_a l0) ?_
  refine u_0 qL_1136 rfl (ld_i l3) ?_
  refine u_0 qL_1137 rfl rfl ?_
  refine u_0 qL_1138 rfl pu_add ?_
  refine u_0 qL_1139 rfl (pq_sa hL ⟨by omega, by omega⟩) ?_
  refine u_0 qL_1140 rfl (ld_a l0) ?_
  refine u_0 qL_1141 rfl (ld_i l3) ?_
  refine u_0 qL_1142 rfl rfl ?_
  refine u_0 qL_1143 rfl pu_add ?_
  refine u_0 qL_1144 rfl (pq_sa hL ⟨by omega, by omega⟩) ?_
  refine u_3 qL_1145 rfl (ar := ([pvR 0, .inl (xs ((i : Int) + 1).toNat), .inl (xs ((i : Int) + 2).toNat), .inl (xs ((i : Int) + 3).toNat)], [])) (pcal_w (as := [.inl (xs ((i : Int) + 3).toNat), .inl (xs ((i : Int) + 2).toNat), .inl (xs ((i : Int) + 1).toNat)]) rfl rfl rfl el_0) ⟨by decide, Nat.le_of_ble_eq_true rfl, Nat.le_of_ble_eq_true rfl, rfl⟩ ?_
  refine kc_go (k := kk_50) in_k50 rfl (by decide) hG hx (vs := [pvR 0, .inl (xs ((i : Int) + 1).toNat), .inl (xs ((i : Int) + 2).toNat), .inl (xs ((i : Int) + 3).toNat)]) (xs := [cv (pvR 0), ((xs ((i : Int) + 1).toNat)).toInt, ((xs ((i : Int) + 2).toNat)).toInt, ((xs ((i : Int) + 3).toNat)).toInt]) ⟨by decide, ⟨⟨pvR 0, rfl, rfl, rfl, ok_0⟩, ⟨.inl (xs ((i : Int) + 1).toNat), rfl, rfl, rfl, ok_full32 _⟩, ⟨.inl (xs ((i : Int) + 2).toNat), rfl, rfl, rfl, ok_full32 _⟩, ⟨.inl (xs ((i : Int) + 3).toNat), rfl, rfl, rfl, ok_full32 _⟩, trivial⟩, trivial, fun c hc => by cases hc⟩ rfl (n := 1) (by decide +kernel) (fun v1 g1 t1 G1 X1 M1 => ?_)
  obtain ⟨r1, rfl⟩ := ct_1 t1
  show u_X (some (xs, L)) 100 276 1148 lv [.inr (.inl r1)] g1 P
  refine u_0 qL_1148 rfl rfl ?_
  show u_X (some (xs, L)) 100 276 1149 lv [] g1 P
  refine u_0 qL_1149 rfl (ld_a l2) ?_
  refine u_0 qL_1150 rfl (ld_a l0) ?_
  refine u_0 qL_1151 rfl (ld_i l3) ?_
  refine u_0 qL_1152 rfl rfl ?_
  refine u_0 qL_1153 rfl pu_add ?_
  refine u_0 qL_1154 rfl (pq_sa hL ⟨by omega, by omega⟩) ?_
  refine u_0 qL_1155 rfl (ld_a l0) ?_
  refine u_0 qL_1156 rfl (ld_i l3) ?_
  refine u_0 qL_1157 rfl rfl ?_
  refine u_0 qL_1158 rfl pu_add ?_
  refine u_0 qL_1159 rfl (pq_sa hL ⟨by omega, by omega⟩) ?_
  refine u_0 qL_1160 rfl (ld_a l0) ?_
  refine u_0 qL_1161 rfl (ld_i l3) ?_
  refine u_0 qL_1162 rfl rfl ?_
  refine u_0 qL_1163 rfl pu_add ?_
  refine u_0 qL_1164 rfl (pq_sa hL ⟨by omega, by omega⟩) ?_
  refine u_3 qL_1165 rfl (ar := ([pvR 196, .inl (xs ((i : Int) + 1).toNat), .inl (xs ((i : Int) + 2).toNat), .inl (xs ((i : Int) + 3).toNat)], [])) (pcal_w (as := [.inl (xs ((i : Int) + 3).toNat), .inl (xs ((i : Int) + 2).toNat), .inl (xs ((i : Int) + 1).toNat)]) rfl rfl rfl el_196) ⟨by decide, Nat.le_of_ble_eq_true rfl, Nat.le_of_ble_eq_true rfl, rfl⟩ ?_
  refine kc_go (k := kk_51) in_k51 rfl (by decide) G1 X1 (vs := [pvR 196, .inl (xs ((i : Int) + 1).toNat), .inl (xs ((i : Int) + 2).toNat), .inl (xs ((i : Int) + 3).toNat)]) (xs := [cv (pvR 196), ((xs ((i : Int) + 1).toNat)).toInt, ((xs ((i : Int) + 2).toNat)).toInt, ((xs ((i : Int) + 3).toNat)).toInt]) ⟨by decide, ⟨⟨pvR 196, rfl, rfl, rfl, ok_this⟩, ⟨.inl (xs ((i : Int) + 1).toNat), rfl, rfl, rfl, ok_full32 _⟩, ⟨.inl (xs ((i : Int) + 2).toNat), rfl, rfl, rfl, ok_full32 _⟩, ⟨.inl (xs ((i : Int) + 3).toNat), rfl, rfl, rfl, ok_full32 _⟩, trivial⟩, trivial, fun c hc => by cases hc⟩ rfl (n := 1) (by decide +kernel) (fun v2 g2 t2 G2 X2 M2 => ?_)
  obtain ⟨r2, rfl⟩ := ct_1 t2
  show u_X (some (xs, L)) 100 276 1168 lv [.inr (.inl r2)] g2 P
  refine u_0 qL_1168 rfl rfl ?_
  show u_X (some (xs, L)) 100 276 1169 lv [] g2 P
  refine u_1 qL_1169 rfl (pb_goto (pc := 1169) (by decide)) ?_
  show u_X (some (xs, L)) 100 276 1313 lv [] g2 P
  exact hC _ G2 X2
set_option maxHeartbeats 4000000 in
theorem lo_op28 {xs : Nat → Int32} {L : Nat} (hL : L ≤ 3072) {i : Nat} (hi : i + 6 ≤ L) {lv : List (Nat × pv)} (l0 : px_lg lv 0 = some (pvR 1000)) (l1 : px_lg lv 1 = some (pvR 0)) (l2 : px_lg lv 2 = some (pvR 196)) (l3 : px_lg lv 3 = some (oI (i : Int))) {g : pH} (hG : g_I eG g) (hx : xL g) {P : Option pv × pH → Prop} (hC : ∀ g1 : pH, g_I eG g1 → xL g1 → u_X (some (xs, L)) 100 276 1313 lv [] g1 P) : u_X (some (xs, L)) 100 276 1172 lv [] g P := by
  refine u_0 qL_1172 rfl (ld_a l1) ?_
  refine u_0 qL_1173 rfl (ld_a l0) ?_
  refine u_0 qL_1174 rfl (ld_i l3) ?_
  refine u_0 qL_1175 rfl rfl ?_
  refine u_0 qL_1176 rfl pu_add ?_
  refine u_0 qL_1177 rfl (pq_sa hL ⟨by omega, by omega⟩) ?_
  refine u_3 qL_1178 rfl (ar := ([pvR 0, .inl (xs ((i : Int) + 1).toNat)], [])) (pcal_w (as := [.inl (xs ((i : Int) + 1).toNat)]) rfl rfl rfl el_0) ⟨by decide, Nat.le_of_ble_eq_true rfl, Nat.le_of_ble_eq_true rfl, rfl⟩ ?_
  refine kc_go (k := kk_52) in_k52 rfl (by decide) hG hx (vs := [pvR 0, .inl (xs ((i : Int) + 1).toNat)]) (xs := [cv (pvR 0), ((xs ((i : Int) + 1).toNat)).toInt]) ⟨by decide, ⟨⟨pvR 0, rfl, rfl, rfl, ok_0⟩, ⟨.inl (xs ((i : Int) + 1).toNat), rfl, rfl, rfl, ok_full32 _⟩, trivial⟩, trivial, fun c hc => by cases hc⟩ rfl (n := 1) (by decide +kernel) (fun v1 g1 t1 G1 X1 M1 => ?_)
  obtain ⟨r1, rfl⟩ := ct_1 t1
  show u_X (some (xs, L)) 100 276 1181 lv [.inr (.inl r1)] g1 P
  refine u_0 qL_1181 rfl rfl ?_
  show u_X (some (xs, L)) 100 276 1182 lv [] g1 P
  refine u_0 qL_1182 rfl (ld_a l2) ?_
  refine u_0 qL_1183 rfl (ld_a l0) ?_
  refine u_0 qL_1184 rfl (ld_i l3) ?_
  refine u_0 qL_1185 rfl rfl ?_
  refine u_0 qL_1186 rfl pu_add ?_
  refine u_0 qL_1187 rfl (pq_sa hL ⟨by omega, by omega⟩) ?_
  refine u_3 qL_1188 rfl (ar := ([pvR 196, .inl (xs ((i : Int) + 1).toNat)], [])) (pcal_w (as := [.inl (xs ((i : Int) + 1).toNat)]) rfl rfl rfl el_196) ⟨by decide, Nat.le_of_ble_eq_true rfl, Nat.le_of_ble_eq_true rfl, rfl⟩ ?_
  refine kc_go (k := kk_53) in_k53 rfl (by decide) G1 X1 (vs := [pvR 196, .inl (xs ((i : Int) + 1).toNat)]) (xs := [cv (pvR 196), ((xs ((i : Int) + 1).toNat)).toInt]) ⟨by decide, ⟨⟨pvR 196, rfl, rfl, rfl, ok_this⟩, ⟨.inl (xs ((i : Int) + 1).toNat), rfl, rfl, rfl, ok_full32 _⟩, trivial⟩, trivial, fun c hc => by cases hc⟩ rfl (n := 1) (by decide +kernel) (fun v2 g2 t2 G2 X2 M2 => ?_)
  obtain ⟨r2, rfl⟩ := ct_1 t2
  show u_X (some (xs, L)) 100 276 1191 lv [.inr (.inl r2)] g2 P
  refine u_0 qL_1191 rfl rfl ?_
  show u_X (some (xs, L)) 100 276 1192 lv [] g2 P
  refine u_1 qL_1192 rfl (pb_goto (pc := 1192) (by decide)) ?_
  show u_X (some (xs, L)) 100 276 1313 lv [] g2 P
  exact hC _ G2 X2
set_option maxHeartbeats 4000000 in
theorem lo_op29 {xs : Nat → Int32} {L : Nat} (hL : L ≤ 3072) {i : Nat} (hi : i + 6 ≤ L) {lv : List (Nat × pv)} (l0 : px_lg lv 0 = some (pvR 1000)) (l1 : px_lg lv 1 = some (pvR 0)) (l2 : px_lg lv 2 = some (pvR 196)) (l3 : px_lg lv 3 = some (oI (i : Int))) {g : pH} (hG : g_I eG g) (hx : xL g) {P : Option pv × pH → Prop} (hC : ∀ g1 : pH, g_I eG g1 → xL g1 → u_X (some (xs, L)) 100 276 1313 lv [] g1 P) : u_X (some (xs, L)) 100 276 1195 lv [] g P := by
  refine u_0 qL_1195 rfl (ld_a l1) ?_
  refine u_3 qL_1196 rfl (ar := ([pvR 0], [])) (pcal_w (as := []) rfl rfl rfl el_0) ⟨by decide, Nat.le_of_ble_eq_true rfl, Nat.le_of_ble_eq_true rfl, rfl⟩ ?_
  refine kc_go (k := kk_54) in_k54 rfl (by decide) hG hx (vs := [pvR 0]) (xs := [cv (pvR 0)]) ⟨by decide, ⟨⟨pvR 0, rfl, rfl, rfl, ok_0⟩, trivial⟩, trivial, fun c hc => by cases hc⟩ rfl (n := 0) (by decide +kernel) (fun v1 g1 t1 G1 X1 M1 => ?_)
  obtain ⟨r1, rfl⟩ := ct_0 t1
  show u_X (some (xs, L)) 100 276 1199 lv [.inl r1] g1 P
  refine u_0 qL_1199 rfl rfl ?_
  show u_X (some (xs, L)) 100 276 1200 lv [] g1 P
  refine u_0 qL_1200 rfl (ld_a l2) ?_
  refine u_3 qL_1201 rfl (ar := ([pvR 196], [])) (pcal_w (as := []) rfl rfl rfl el_196) ⟨by decide, Nat.le_of_ble_eq_true rfl, Nat.le_of_ble_eq_true rfl, rfl⟩ ?_
  refine pi_run (by decide) (by decide) G1 X1 (fun g2 z2 J2 => ?_) rfl
  have X2 := xL_K _ _ _ J2.2 Wp_1.2.2.1 X1
  have G2 := J2.1
  show u_X (some (xs, L)) 100 276 1204 lv [.inl z2] g2 P
  refine u_0 qL_1204 rfl rfl ?_
  show u_X (some (xs, L)) 100 276 1205 lv [] g2 P
  refine u_1 qL_1205 rfl (pb_goto (pc := 1205) (by decide)) ?_
  show u_X (some (xs, L)) 100 276 1313 lv [] g2 P
  exact hC _ G2 X2
set_option maxHeartbeats 4000000 in
theorem lo_op30 {xs : Nat → Int32} {L : Nat} (hL : L ≤ 3072) {i : Nat} (hi : i + 6 ≤ L) {lv : List (Nat × pv)} (l0 : px_lg lv 0 = some (pvR 1000)) (l1 : px_lg lv 1 = some (pvR 0)) (l2 : px_lg lv 2 = some (pvR 196)) (l3 : px_lg lv 3 = some (oI (i : Int))) {g : pH} (hG : g_I eG g) (hx : xL g) {P : Option pv × pH → Prop} (hC : ∀ g1 : pH, g_I eG g1 → xL g1 → u_X (some (xs, L)) 100 276 1313 lv [] g1 P) : u_X (some (xs, L)) 100 276 1208 lv [] g P := by
  refine u_0 qL_1208 rfl (ld_a l1) ?_
  refine u_0 qL_1209 rfl (ld_a l0) ?_
  refine u_0 qL_1210 rfl (ld_i l3) ?_
  refine u_0 qL_1211 rfl rfl ?_
  refine u_0 qL_1212 rfl pu_add ?_
  refine u_0 qL_1213 rfl (pq_sa hL ⟨by omega, by omega⟩) ?_
  refine u_3 qL_1214 rfl (ar := ([pvR 0, .inl (xs ((i : Int) + 1).toNat)], [])) (pcal_w (as := [.inl (xs ((i : Int) + 1).toNat)]) rfl rfl rfl el_0) ⟨by decide, Nat.le_of_ble_eq_true rfl, Nat.le_of_ble_eq_true rfl, rfl⟩ ?_
  refine kc_go (k := kk_55) in_k55 rfl (by decide) hG hx (vs := [pvR 0, .inl (xs ((i : Int) + 1).toNat)]) (xs := [cv (pvR 0), ((xs ((i : Int) + 1).toNat)).toInt]) ⟨by decide, ⟨⟨pvR 0, rfl, rfl, rfl, ok_0⟩, ⟨.inl (xs ((i : Int) + 1).toNat), rfl, rfl, rfl, ok_full32 _⟩, trivial⟩, trivial, fun c hc => by cases hc⟩ rfl (n := 0) (by decide +kernel) (fun v1 g1 t1 G1 X1 M1 => ?_)
  obtain ⟨r1, rfl⟩ := ct_0 t1
  show u_X (some (xs, L)) 100 276 1217 lv [.inl r1] g1 P
  refine u_0 qL_1217 rfl rfl ?_
  show u_X (some (xs, L)) 100 276 1218 lv [] g1 P
  refine u_0 qL_1218 rfl (ld_a l2) ?_
  refine u_0 qL_1219 rfl (ld_a l0) ?_
  refine u_0 qL_1220 rfl (ld_i l3) ?_
  refine u_0 qL_1221 rfl rfl ?_
  refine u_0 qL_1222 rfl pu_add ?_
  refine u_0 qL_1223 rfl (pq_sa hL ⟨by omega, by omega⟩) ?_
  refine u_3 qL_1224 rfl (ar := ([pvR 196, .inl (xs ((i : Int) + 1).toNat)], [])) (pcal_w (as := [.inl (xs ((i : Int) + 1).toNat)]) rfl rfl rfl el_196) ⟨by decide, Nat.le_of_ble_eq_true rfl, Nat.le_of_ble_eq_true rfl, rfl⟩ ?_
  refine kc_go (k := kk_56) in_k56 rfl (by decide) G1 X1 (vs := [pvR 196, .inl (xs ((i : Int) + 1).toNat)]) (xs := [cv (pvR 196), ((xs ((i : Int) + 1).toNat)).toInt]) ⟨by decide, ⟨⟨pvR 196, rfl, rfl, rfl, ok_this⟩, ⟨.inl (xs ((i : Int) + 1).toNat), rfl, rfl, rfl, ok_full32 _⟩, trivial⟩, trivial, fun c hc => by cases hc⟩ rfl (n := 0) (by decide +kernel) (fun v2 g2 t2 G2 X2 M2 => ?_)
  obtain ⟨r2, rfl⟩ := ct_0 t2
  show u_X (some (xs, L)) 100 276 1227 lv [.inl r2] g2 P
  refine u_0 qL_1227 rfl rfl ?_
  show u_X (some (xs, L)) 100 276 1228 lv [] g2 P
  refine u_1 qL_1228 rfl (pb_goto (pc := 1228) (by decide)) ?_
  show u_X (some (xs, L)) 100 276 1313 lv [] g2 P
  exact hC _ G2 X2
set_option maxHeartbeats 4000000 in
theorem lo_op31 {xs : Nat → Int32} {L : Nat} (hL : L ≤ 3072) {i : Nat} (hi : i + 6 ≤ L) {lv : List (Nat × pv)} (l0 : px_lg lv 0 = some (pvR 1000)) (l1 : px_lg lv 1 = some (pvR 0)) (l2 : px_lg lv 2 = some (pvR 196)) (l3 : px_lg lv 3 = some (oI (i : Int))) {g : pH} (hG : g_I eG g) (hx : xL g) {P : Option pv × pH → Prop} (hC : ∀ g1 : pH, g_I eG g1 → xL g1 → u_X (some (xs, L)) 100 276 1313 lv [] g1 P) : u_X (some (xs, L)) 100 276 1231 lv [] g P := by
  refine u_0 qL_1231 rfl (ld_a l1) ?_
  refine u_3 qL_1232 rfl (ar := ([pvR 0], [])) (pcal_w (as := []) rfl rfl rfl el_0) ⟨by decide, Nat.le_of_ble_eq_true rfl, Nat.le_of_ble_eq_true rfl, rfl⟩ ?_
  refine kc_go (k := kk_57) in_k57 rfl (by decide) hG hx (vs := [pvR 0]) (xs := [cv (pvR 0)]) ⟨by decide, ⟨⟨pvR 0, rfl, rfl, rfl, ok_0⟩, trivial⟩, trivial, fun c hc => by cases hc⟩ rfl (n := 0) (by decide +kernel) (fun v1 g1 t1 G1 X1 M1 => ?_)
  obtain ⟨r1, rfl⟩ := ct_0 t1
  show u_X (some (xs, L)) 100 276 1235 lv [.inl r1] g1 P
  refine u_0 qL_1235 rfl rfl ?_
  show u_X (some (xs, L)) 100 276 1236 lv [] g1 P
  refine u_0 qL_1236 rfl (ld_a l2) ?_
  refine u_3 qL_1237 rfl (ar := ([pvR 196], [])) (pcal_w (as := []) rfl rfl rfl el_196) ⟨by decide, Nat.le_of_ble_eq_true rfl, Nat.le_of_ble_eq_true rfl, rfl⟩ ?_
  refine kc_go (k := kk_58) in_k58 rfl (by decide) G1 X1 (vs := [pvR 196]) (xs := [cv (pvR 196)]) ⟨by decide, ⟨⟨pvR 196, rfl, rfl, rfl, ok_this⟩, trivial⟩, trivial, fun c hc => by cases hc⟩ rfl (n := 0) (by decide +kernel) (fun v2 g2 t2 G2 X2 M2 => ?_)
  obtain ⟨r2, rfl⟩ := ct_0 t2
  show u_X (some (xs, L)) 100 276 1240 lv [.inl r2] g2 P
  refine u_0 qL_1240 rfl rfl ?_
  show u_X (some (xs, L)) 100 276 1241 lv [] g2 P
  refine u_1 qL_1241 rfl (pb_goto (pc := 1241) (by decide)) ?_
  show u_X (some (xs, L)) 100 276 1313 lv [] g2 P
  exact hC _ G2 X2
set_option maxHeartbeats 4000000 in
theorem lo_op32 {xs : Nat → Int32} {L : Nat} (hL : L ≤ 3072) {i : Nat} (hi : i + 6 ≤ L) {lv : List (Nat × pv)} (l0 : px_lg lv 0 = some (pvR 1000)) (l1 : px_lg lv 1 = some (pvR 0)) (l2 : px_lg lv 2 = some (pvR 196)) (l3 : px_lg lv 3 = some (oI (i : Int))) {g : pH} (hG : g_I eG g) (hx : xL g) {P : Option pv × pH → Prop} (hC : ∀ g1 : pH, g_I eG g1 → xL g1 → u_X (some (xs, L)) 100 276 1313 lv [] g1 P) : u_X (some (xs, L)) 100 276 1244 lv [] g P := by
  refine u_0 qL_1244 rfl (ld_a l1) ?_
  refine u_3 qL_1245 rfl (ar := ([pvR 0], [])) (pcal_w (as := []) rfl rfl rfl el_0) ⟨by decide, Nat.le_of_ble_eq_true rfl, Nat.le_of_ble_eq_true rfl, rfl⟩ ?_
  refine kc_go (k := kk_59) in_k59 rfl (by decide) hG hx (vs := [pvR 0]) (xs := [cv (pvR 0)]) ⟨by decide, ⟨⟨pvR 0, rfl, rfl, rfl, ok_0⟩, trivial⟩, trivial, fun c hc => by cases hc⟩ rfl (n := 0) (by decide +kernel) (fun v1 g1 t1 G1 X1 M1 => ?_)
  obtain ⟨r1, rfl⟩ := ct_0 t1
  show u_X (some (xs, L)) 100 276 1248 lv [.inl r1] g1 P
  refine u_0 qL_1248 rfl rfl ?_
  show u_X (some (xs, L)) 100 276 1249 lv [] g1 P
  refine u_0 qL_1249 rfl (ld_a l2) ?_
  refine u_3 qL_1250 rfl (ar := ([pvR 196], [])) (pcal_w (as := []) rfl rfl rfl el_196) ⟨by decide, Nat.le_of_ble_eq_true rfl, Nat.le_of_ble_eq_true rfl, rfl⟩ ?_
  refine kc_go (k := kk_60) in_k60 rfl (by decide) G1 X1 (vs := [pvR 196]) (xs := [cv (pvR 196)]) ⟨by decide, ⟨⟨pvR 196, rfl, rfl, rfl, ok_this⟩, trivial⟩, trivial, fun c hc => by cases hc⟩ rfl (n := 0) (by decide +kernel) (fun v2 g2 t2 G2 X2 M2 => ?_)
  obtain ⟨r2, rfl⟩ := ct_0 t2
  show u_X (some (xs, L)) 100 276 1253 lv [.inl r2] g2 P
  refine u_0 qL_1253 rfl rfl ?_
  show u_X (some (xs, L)) 100 276 1254 lv [] g2 P
  refine u_1 qL_1254 rfl (pb_goto (pc := 1254) (by decide)) ?_
  show u_X (some (xs, L)) 100 276 1313 lv [] g2 P
  exact hC _ G2 X2
set_option maxHeartbeats 4000000 in
theorem lo_op33 {xs : Nat → Int32} {L : Nat} (hL : L ≤ 3072) {i : Nat} (hi : i + 6 ≤ L) {lv : List (Nat × pv)} (l0 : px_lg lv 0 = some (pvR 1000)) (l1 : px_lg lv 1 = some (pvR 0)) (l2 : px_lg lv 2 = some (pvR 196)) (l3 : px_lg lv 3 = some (oI (i : Int))) {g : pH} (hG : g_I eG g) (hx : xL g) {P : Option pv × pH → Prop} (hC : ∀ g1 : pH, g_I eG g1 → xL g1 → u_X (some (xs, L)) 100 276 1313 lv [] g1 P) : u_X (some (xs, L)) 100 276 1257 lv [] g P := by
  refine u_0 qL_1257 rfl (ld_a l1) ?_
  refine u_0 qL_1258 rfl (ld_a l0) ?_
  refine u_0 qL_1259 rfl (ld_i l3) ?_
  refine u_0 qL_1260 rfl rfl ?_
  refine u_0 qL_1261 rfl pu_add ?_
  refine u_0 qL_1262 rfl (pq_sa hL ⟨by omega, by omega⟩) ?_
  refine u_0 qL_1263 rfl (ld_a l0) ?_
  refine u_0 qL_1264 rfl (ld_i l3) ?_
  refine u_0 qL_1265 rfl rfl ?_
  refine u_0 qL_1266 rfl pu_add ?_
  refine u_0 qL_1267 rfl (pq_sa hL ⟨by omega, by omega⟩) ?_
  refine u_3 qL_1268 rfl (ar := ([pvR 0, .inl (xs ((i : Int) + 1).toNat), .inl (xs ((i : Int) + 2).toNat)], [])) (pcal_w (as := [.inl (xs ((i : Int) + 2).toNat), .inl (xs ((i : Int) + 1).toNat)]) rfl rfl rfl el_0) ⟨by decide, Nat.le_of_ble_eq_true rfl, Nat.le_of_ble_eq_true rfl, rfl⟩ ?_
  refine kc_go (k := kk_61) in_k61 rfl (by decide) hG hx (vs := [pvR 0, .inl (xs ((i : Int) + 1).toNat), .inl (xs ((i : Int) + 2).toNat)]) (xs := [cv (pvR 0), ((xs ((i : Int) + 1).toNat)).toInt, ((xs ((i : Int) + 2).toNat)).toInt]) ⟨by decide, ⟨⟨pvR 0, rfl, rfl, rfl, ok_0⟩, ⟨.inl (xs ((i : Int) + 1).toNat), rfl, rfl, rfl, ok_full32 _⟩, ⟨.inl (xs ((i : Int) + 2).toNat), rfl, rfl, rfl, ok_full32 _⟩, trivial⟩, trivial, fun c hc => by cases hc⟩ rfl (n := 0) (by decide +kernel) (fun v1 g1 t1 G1 X1 M1 => ?_)
  obtain ⟨r1, rfl⟩ := ct_0 t1
  show u_X (some (xs, L)) 100 276 1271 lv [.inl r1] g1 P
  refine u_0 qL_1271 rfl rfl ?_
  show u_X (some (xs, L)) 100 276 1272 lv [] g1 P
  refine u_0 qL_1272 rfl (ld_a l2) ?_
  refine u_0 qL_1273 rfl (ld_a l0) ?_
  refine u_0 qL_1274 rfl (ld_i l3) ?_
  refine u_0 qL_1275 rfl rfl ?_
  refine u_0 qL_1276 rfl pu_add ?_
  refine u_0 qL_1277 rfl (pq_sa hL ⟨by omega, by omega⟩) ?_
  refine u_0 qL_1278 rfl (ld_a l0) ?_
  refine u_0 qL_1279 rfl (ld_i l3) ?_
  refine u_0 qL_1280 rfl rfl ?_
  refine u_0 qL_1281 rfl pu_add ?_
  refine u_0 qL_1282 rfl (pq_sa hL ⟨by omega, by omega⟩) ?_
  refine u_3 qL_1283 rfl (ar := ([pvR 196, .inl (xs ((i : Int) + 1).toNat), .inl (xs ((i : Int) + 2).toNat)], [])) (pcal_w (as := [.inl (xs ((i : Int) + 2).toNat), .inl (xs ((i : Int) + 1).toNat)]) rfl rfl rfl el_196) ⟨by decide, Nat.le_of_ble_eq_true rfl, Nat.le_of_ble_eq_true rfl, rfl⟩ ?_
  refine kc_go (k := kk_62) in_k62 rfl (by decide) G1 X1 (vs := [pvR 196, .inl (xs ((i : Int) + 1).toNat), .inl (xs ((i : Int) + 2).toNat)]) (xs := [cv (pvR 196), ((xs ((i : Int) + 1).toNat)).toInt, ((xs ((i : Int) + 2).toNat)).toInt]) ⟨by decide, ⟨⟨pvR 196, rfl, rfl, rfl, ok_this⟩, ⟨.inl (xs ((i : Int) + 1).toNat), rfl, rfl, rfl, ok_full32 _⟩, ⟨.inl (xs ((i : Int) + 2).toNat), rfl, rfl, rfl, ok_full32 _⟩, trivial⟩, trivial, fun c hc => by cases hc⟩ rfl (n := 0) (by decide +kernel) (fun v2 g2 t2 G2 X2 M2 => ?_)
  obtain ⟨r2, rfl⟩ := ct_0 t2
  show u_X (some (xs, L)) 100 276 1286 lv [.inl r2] g2 P
  refine u_0 qL_1286 rfl rfl ?_
  show u_X (some (xs, L)) 100 276 1287 lv [] g2 P
  refine u_1 qL_1287 rfl (pb_goto (pc := 1287) (by decide)) ?_
  show u_X (some (xs, L)) 100 276 1313 lv [] g2 P
  exact hC _ G2 X2
set_option maxHeartbeats 4000000 in
theorem lo_op34 {xs : Nat → Int32} {L : Nat} (hL : L ≤ 3072) {i : Nat} (hi : i + 6 ≤ L) {lv : List (Nat × pv)} (l0 : px_lg lv 0 = some (pvR 1000)) (l1 : px_lg lv 1 = some (pvR 0)) (l2 : px_lg lv 2 = some (pvR 196)) (l3 : px_lg lv 3 = some (oI (i : Int))) {g : pH} (hG : g_I eG g) (hx : xL g) {P : Option pv × pH → Prop} (hC : ∀ g1 : pH, g_I eG g1 → xL g1 → u_X (some (xs, L)) 100 276 1313 lv [] g1 P) : u_X (some (xs, L)) 100 276 1290 lv [] g P := by
  refine u_0 qL_1290 rfl (ld_a l1) ?_
  refine u_0 qL_1291 rfl (ld_a l0) ?_
  refine u_0 qL_1292 rfl (ld_i l3) ?_
  refine u_0 qL_1293 rfl rfl ?_
  refine u_0 qL_1294 rfl pu_add ?_
  refine u_0 qL_1295 rfl (pq_sa hL ⟨by omega, by omega⟩) ?_
  refine u_3 qL_1296 rfl (ar := ([pvR 0, .inl (xs ((i : Int) + 1).toNat)], [])) (pcal_w (as := [.inl (xs ((i : Int) + 1).toNat)]) rfl rfl rfl el_0) ⟨by decide, Nat.le_of_ble_eq_true rfl, Nat.le_of_ble_eq_true rfl, rfl⟩ ?_
  refine kc_go (k := kk_63) in_k63 rfl (by decide) hG hx (vs := [pvR 0, .inl (xs ((i : Int) + 1).toNat)]) (xs := [cv (pvR 0), ((xs ((i : Int) + 1).toNat)).toInt]) ⟨by decide, ⟨⟨pvR 0, rfl, rfl, rfl, ok_0⟩, ⟨.inl (xs ((i : Int) + 1).toNat), rfl, rfl, rfl, ok_full32 _⟩, trivial⟩, trivial, fun c hc => by cases hc⟩ rfl (n := 0) (by decide +kernel) (fun v1 g1 t1 G1 X1 M1 => ?_)
  obtain ⟨r1, rfl⟩ := ct_0 t1
  show u_X (some (xs, L)) 100 276 1299 lv [.inl r1] g1 P
  refine u_0 qL_1299 rfl rfl ?_
  show u_X (some (xs, L)) 100 276 1300 lv [] g1 P
  refine u_0 qL_1300 rfl (ld_a l2) ?_
  refine u_0 qL_1301 rfl (ld_a l0) ?_
  refine u_0 qL_1302 rfl (ld_i l3) ?_
  refine u_0 qL_1303 rfl rfl ?_
  refine u_0 qL_1304 rfl pu_add ?_
  refine u_0 qL_1305 rfl (pq_sa hL ⟨by omega, by omega⟩) ?_
  refine u_3 qL_1306 rfl (ar := ([pvR 196, .inl (xs ((i : Int) + 1).toNat)], [])) (pcal_w (as := [.inl (xs ((i : Int) + 1).toNat)]) rfl rfl rfl el_196) ⟨by decide, Nat.le_of_ble_eq_true rfl, Nat.le_of_ble_eq_true rfl, rfl⟩ ?_
  refine kc_go (k := kk_64) in_k64 rfl (by decide) G1 X1 (vs := [pvR 196, .inl (xs ((i : Int) + 1).toNat)]) (xs := [cv (pvR 196), ((xs ((i : Int) + 1).toNat)).toInt]) ⟨by decide, ⟨⟨pvR 196, rfl, rfl, rfl, ok_this⟩, ⟨.inl (xs ((i : Int) + 1).toNat), rfl, rfl, rfl, ok_full32 _⟩, trivial⟩, trivial, fun c hc => by cases hc⟩ rfl (n := 0) (by decide +kernel) (fun v2 g2 t2 G2 X2 M2 => ?_)
  obtain ⟨r2, rfl⟩ := ct_0 t2
  show u_X (some (xs, L)) 100 276 1309 lv [.inl r2] g2 P
  refine u_0 qL_1309 rfl rfl ?_
  show u_X (some (xs, L)) 100 276 1310 lv [] g2 P
  refine u_1 qL_1310 rfl (pb_goto (pc := 1310) (by decide)) ?_
  show u_X (some (xs, L)) 100 276 1313 lv [] g2 P
  exact hC _ G2 X2
set_option maxHeartbeats 8000000 in
theorem lo_all {xs : Nat → Int32} {L : Nat} (hL : L ≤ 3072) {P : Option pv × pH → Prop} (hP : ∀ g : pH, P (some (oI 1), g)) : ∀ (m i : Nat) (g : pH) (lv : List (Nat × pv)), L + 6 - i ≤ m → i ≤ L + 6 → g_I eG g → xL g → px_lg lv 0 = some (pvR 1000) → px_lg lv 1 = some (pvR 0) → px_lg lv 2 = some (pvR 196) → px_lg lv 3 = some (oI (i : Int)) → u_X (some (xs, L)) 100 276 18 lv [] g P := by
  intro m
  induction m with
  | zero =>
    intro i g lv hm hi hG hx l0 l1 l2 l3
    refine u_0 qL_18 rfl (ld_i l3) ?_
    refine u_0 qL_19 rfl (ld_a l0) ?_
    refine u_0 qL_20 rfl pq_sl ?_
    refine u_0 qL_21 rfl (pu_b (n := 6) (by decide)) ?_
    refine u_0 qL_23 rfl pu_sub ?_
    refine ub_gt qL_24 (by decide) ⟨by omega, by omega⟩ ⟨by omega, by omega⟩ (fun c1 => ?_) (fun c1 => ?_)
    · show u_X (some (xs, L)) 100 276 1319 lv [] g P
      refine u_0 qL_1319 rfl rfl ?_
      refine u_5 qL_1320 rfl rfl ?_
      exact hP g
    · omega
  | succ m ih =>
    intro i g lv hm hi hG hx l0 l1 l2 l3
    refine u_0 qL_18 rfl (ld_i l3) ?_
    refine u_0 qL_19 rfl (ld_a l0) ?_
    refine u_0 qL_20 rfl pq_sl ?_
    refine u_0 qL_21 rfl (pu_b (n := 6) (by decide)) ?_
    refine u_0 qL_23 rfl pu_sub ?_
    refine ub_gt qL_24 (by decide) ⟨by omega, by omega⟩ ⟨by omega, by omega⟩ (fun c1 => ?_) (fun c1 => ?_)
    · show u_X (some (xs, L)) 100 276 1319 lv [] g P
      refine u_0 qL_1319 rfl rfl ?_
      refine u_5 qL_1320 rfl rfl ?_
      exact hP g
    have hi6 : i + 6 ≤ L := by omega
    have hC : ∀ g1 : pH, g_I eG g1 → xL g1 → u_X (some (xs, L)) 100 276 1313 lv [] g1 P := fun g1 G1 X1 => by
      refine u_2 qL_1313 rfl (w := (px_s1 lv 3 (oI ((i : Int) + 6)), [])) (pq_inc l3 (by decide)) ?_
      refine u_1 qL_1316 rfl (pb_goto (pc := 1316) (by decide)) ?_
      exact ih (i + 6) g1 _ (by omega) (by omega) G1 X1 (s1_ne (by decide) (fun _ => rfl) l0) (s1_ne (by decide) (fun _ => rfl) l1) (s1_ne (by decide) (fun _ => rfl) l2) s1_eq
    show u_X (some (xs, L)) 100 276 27 lv [] g P
    refine u_0 qL_27 rfl (ld_a l0) ?_
    refine u_0 qL_28 rfl (ld_i l3) ?_
    refine u_0 qL_29 rfl (pq_sa hL ⟨by omega, by omega⟩) ?_
    refine u_0 qL_30 rfl (pu_b (n := 63) (by decide)) ?_
    refine u_0 qL_32 rfl rfl ?_
    have h63 := eo_and_r (x := xs (i : Int).toNat) (y := Int32.ofInt 63) (by decide)
    have e63 : (Int32.ofInt 63).toInt = 63 := by decide
    show u_X (some (xs, L)) 100 276 33 lv [.inl (xs (i : Int).toNat &&& Int32.ofInt 63)] g P
    generalize (xs (i : Int).toNat &&& Int32.ofInt 63) = y at h63 ⊢
    by_cases hy : y.toInt < 0 ∨ 34 < y.toInt
    · refine u_1 qL_33 rfl (t := (1313, [])) ?_ (hC g hG hx)
      show (if y.toInt < 0 ∨ 34 < y.toInt then (if 0 ≤ ((33 : Nat) : Int) + 1280 then some (px_tg 33 1280, []) else none) else _) = _
      rw [if_pos hy]
      rfl
    · obtain ⟨k, hk⟩ : ∃ k : Nat, y.toInt = k := ⟨y.toInt.toNat, by omega⟩
      have hk2 : k ≤ 34 := by omega
      obtain rfl : y = Int32.ofInt (k : Int) := Int32.toInt_inj.mp (by rw [hk, oT (by omega) (by omega)])
      clear hy hk h63
      match k, hk2 with
      | 0, _ => exact u_1 qL_33 rfl (t := (188, [])) rfl (lo_op0 hL hi6 l0 l1 l2 l3 hG hx hC)
      | 1, _ => exact u_1 qL_33 rfl (t := (251, [])) rfl (lo_op1 hL hi6 l0 l1 l2 l3 hG hx hC)
      | 2, _ => exact u_1 qL_33 rfl (t := (304, [])) rfl (lo_op2 hL hi6 l0 l1 l2 l3 hG hx hC)
      | 3, _ => exact u_1 qL_33 rfl (t := (337, [])) rfl (lo_op3 hL hi6 l0 l1 l2 l3 hG hx hC)
      | 4, _ => exact u_1 qL_33 rfl (t := (370, [])) rfl (lo_op4 hL hi6 l0 l1 l2 l3 hG hx hC)
      | 5, _ => exact u_1 qL_33 rfl (t := (393, [])) rfl (lo_op5 hL hi6 l0 l1 l2 l3 hG hx hC)
      | 6, _ => exact u_1 qL_33 rfl (t := (436, [])) rfl (lo_op6 hL hi6 l0 l1 l2 l3 hG hx hC)
      | 7, _ => exact u_1 qL_33 rfl (t := (459, [])) rfl (lo_op7 hL hi6 l0 l1 l2 l3 hG hx hC)
      | 8, _ => exact u_1 qL_33 rfl (t := (482, [])) rfl (lo_op8 hL hi6 l0 l1 l2 l3 hG hx hC)
      | 9, _ => exact u_1 qL_33 rfl (t := (505, [])) rfl (lo_op9 hL hi6 l0 l1 l2 l3 hG hx hC)
      | 10, _ => exact u_1 qL_33 rfl (t := (548, [])) rfl (lo_op10 hL hi6 l0 l1 l2 l3 hG hx hC)
      | 11, _ => exact u_1 qL_33 rfl (t := (591, [])) rfl (lo_op11 hL hi6 l0 l1 l2 l3 hG hx hC)
      | 12, _ => exact u_1 qL_33 rfl (t := (624, [])) rfl (lo_op12 hL hi6 l0 l1 l2 l3 hG hx hC)
      | 13, _ => exact u_1 qL_33 rfl (t := (647, [])) rfl (lo_op13 hL hi6 l0 l1 l2 l3 hG hx hC)
      | 14, _ => exact u_1 qL_33 rfl (t := (660, [])) rfl (lo_op14 hL hi6 l0 l1 l2 l3 hG hx hC)
      | 15, _ => exact u_1 qL_33 rfl (t := (683, [])) rfl (lo_op15 hL hi6 l0 l1 l2 l3 hG hx hC)
      | 16, _ => exact u_1 qL_33 rfl (t := (736, [])) rfl (lo_op16 hL hi6 l0 l1 l2 l3 hG hx hC)
      | 17, _ => exact u_1 qL_33 rfl (t := (769, [])) rfl (lo_op17 hL hi6 l0 l1 l2 l3 hG hx hC)
      | 18, _ => exact u_1 qL_33 rfl (t := (802, [])) rfl (lo_op18 hL hi6 l0 l1 l2 l3 hG hx hC)
      | 19, _ => exact u_1 qL_33 rfl (t := (835, [])) rfl (lo_op19 hL hi6 l0 l1 l2 l3 hG hx hC)
      | 20, _ => exact u_1 qL_33 rfl (t := (868, [])) rfl (lo_op20 hL hi6 l0 l1 l2 l3 hG hx hC)
      | 21, _ => exact u_1 qL_33 rfl (t := (901, [])) rfl (lo_op21 hL hi6 l0 l1 l2 l3 hG hx hC)
      | 22, _ => exact u_1 qL_33 rfl (t := (934, [])) rfl (lo_op22 hL hi6 l0 l1 l2 l3 hG hx hC)
      | 23, _ => exact u_1 qL_33 rfl (t := (967, [])) rfl (lo_op23 hL hi6 l0 l1 l2 l3 hG hx hC)
      | 24, _ => exact u_1 qL_33 rfl (t := (1020, [])) rfl (lo_op24 hL hi6 l0 l1 l2 l3 hG hx hC)
      | 25, _ => exact u_1 qL_33 rfl (t := (1063, [])) rfl (lo_op25 hL hi6 l0 l1 l2 l3 hG hx hC)
      | 26, _ => exact u_1 qL_33 rfl (t := (1096, [])) rfl (lo_op26 hL hi6 l0 l1 l2 l3 hG hx hC)
      | 27, _ => exact u_1 qL_33 rfl (t := (1129, [])) rfl (lo_op27 hL hi6 l0 l1 l2 l3 hG hx hC)
      | 28, _ => exact u_1 qL_33 rfl (t := (1172, [])) rfl (lo_op28 hL hi6 l0 l1 l2 l3 hG hx hC)
      | 29, _ => exact u_1 qL_33 rfl (t := (1195, [])) rfl (lo_op29 hL hi6 l0 l1 l2 l3 hG hx hC)
      | 30, _ => exact u_1 qL_33 rfl (t := (1208, [])) rfl (lo_op30 hL hi6 l0 l1 l2 l3 hG hx hC)
      | 31, _ => exact u_1 qL_33 rfl (t := (1231, [])) rfl (lo_op31 hL hi6 l0 l1 l2 l3 hG hx hC)
      | 32, _ => exact u_1 qL_33 rfl (t := (1244, [])) rfl (lo_op32 hL hi6 l0 l1 l2 l3 hG hx hC)
      | 33, _ => exact u_1 qL_33 rfl (t := (1257, [])) rfl (lo_op33 hL hi6 l0 l1 l2 l3 hG hx hC)
      | 34, _ => exact u_1 qL_33 rfl (t := (1290, [])) rfl (lo_op34 hL hi6 l0 l1 l2 l3 hG hx hC)
      | n + 35, h => exact absurd h (by omega)
