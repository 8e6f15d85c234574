set_option maxRecDepth 100000 in
set_option maxHeartbeats 4000000 in
theorem lw_case_node {l : Launch} {Z : Zt} {n : Nat} {f : Nat → Int32} {j : Nat} {S : St} {I : aH} {cells slots : Nat} (X : Fx Z l room_1 cL_law 4 RL (some .boolean) LQ) (hn : n ≤ 5120) (hj : 10 * j + 10 ≤ n) (L : LI n f j S I cells slots) (hk : ∀ S' I' cells' slots', LI n f (j + 1) S' I' cells' slots' → V Z 4 I' [some (.ref scr), some (.ref rO), some (.ref mO), some (.int (nI (10 * j)))] [] cells' slots' 1385) : V Z 4 I [some (.ref scr), some (.ref rO), some (.ref mO), some (.int (nI (10 * j)))] [] cells slots 164 := by
  obtain ⟨Q, J, rfl, R, hM, hs, IS, hcc, hss⟩ := L
  have hs1 : ovc S J scr = some (.inl (0, aI n f)) := (ovc_k (k := 0) rfl).trans hs
  have hub := IS.ub
  have hj2 : j + 1 ≤ 512 := by omega
  have cIS := IS
  obtain ⟨iv, ct0, kd0, ow, fz, mw, ma, bt, rt, mo, kp, lo0, g0⟩ := IS
  refine V_aload_n X dL_law_164 rfl rfl ?_
  refine V_aload_n X dL_law_165 rfl rfl ?_
  refine V_iload_n X dL_law_166 rfl ?_
  refine V_iconst (v := 1) X dL_law_167 (by decide) ?_
  refine V_iadd X dL_law_168 ?_
  apply V_iaload X dL_law_169
  · exact hs1
  · exact sc_in (k := 1) hj hn (by decide)
  apply V_callV1 X dL_law_170 mk_L_13 iv_X8_node (k_node l ct0 R fz)
  · exact at_root
  · exact rfl
  · exact Nat.le_of_ble_eq_true rfl
  · exact ⟨Nat.le_of_ble_eq_true rfl, Nat.le_of_ble_eq_true rfl⟩
  · exact ⟨by dsimp only [rmm, room_1]; omega, by dsimp only [rmm, room_1]; omega⟩
  rintro r I1 ⟨rfl, Q1, J1, rfl, R1, F1⟩
  have hs2 : ∀ S1, ovl S (ovc S1 J1) scr = some (.inl (0, aI n f)) := fun S1 => (ovl_k (k := 0) (by decide)).trans ((ovc_k (k := 0) rfl).trans ((F1 0 2 0 (by decide)).trans hs))
  rw [((hM.fj F1).ovc (S1 := _)).ov]
  refine V_aload_n X dL_law_173 rfl rfl ?_
  refine V_aload_n X dL_law_174 rfl rfl ?_
  refine V_iload_n X dL_law_175 rfl ?_
  refine V_iconst (v := 1) X dL_law_176 (by decide) ?_
  refine V_iadd X dL_law_177 ?_
  apply V_iaload X dL_law_178
  · exact hs2 _
  · exact sc_in (k := 1) hj hn (by decide)
  apply V_callV1 X dL_law_179 mk_L_17 iv_X9_node (m_node l ct0.1)
  · exact ovl_o
  · exact rfl
  · exact Nat.le_of_ble_eq_true rfl
  · exact ⟨Nat.le_of_ble_eq_true rfl, Nat.le_of_ble_eq_true rfl⟩
  · exact ⟨by dsimp only [rmm, room_1]; omega, by dsimp only [rmm, room_1]; omega⟩
  rintro r I1 ⟨rfl, rfl⟩
  refine V_icmp_eq X dL_law_182 1385 (by decide) (fun c_182 => ?_) (fun c_182 => ?_)
  · exact hk _ _ _ _ (LI.nx R1 F1 hs (up1 cIS.node hj2) (Nat.le_of_eq (congrArg nn m48_node.symm)) hcc hss (by dsimp only [rmm]; omega) (by dsimp only [rmm]; omega))
  · exact absurd rfl c_182
set_option maxRecDepth 100000 in
set_option maxHeartbeats 4000000 in
theorem lw_case_refer {l : Launch} {Z : Zt} {n : Nat} {f : Nat → Int32} {j : Nat} {S : St} {I : aH} {cells slots : Nat} (X : Fx Z l room_1 cL_law 4 RL (some .boolean) LQ) (hn : n ≤ 5120) (hj : 10 * j + 10 ≤ n) (L : LI n f j S I cells slots) (hk : ∀ S' I' cells' slots', LI n f (j + 1) S' I' cells' slots' → V Z 4 I' [some (.ref scr), some (.ref rO), some (.ref mO), some (.int (nI (10 * j)))] [] cells' slots' 1385) : V Z 4 I [some (.ref scr), some (.ref rO), some (.ref mO), some (.int (nI (10 * j)))] [] cells slots 187 := by
  obtain ⟨Q, J, rfl, R, hM, hs, IS, hcc, hss⟩ := L
  have hs1 : ovc S J scr = some (.inl (0, aI n f)) := (ovc_k (k := 0) rfl).trans hs
  have hub := IS.ub
  have hj2 : j + 1 ≤ 512 := by omega
  have cIS := IS
  obtain ⟨iv, ct0, kd0, ow, fz, mw, ma, bt, rt, mo, kp, lo0, g0⟩ := IS
  refine V_aload_n X dL_law_187 rfl rfl ?_
  refine V_aload_n X dL_law_188 rfl rfl ?_
  refine V_iload_n X dL_law_189 rfl ?_
  refine V_iconst (v := 1) X dL_law_190 (by decide) ?_
  refine V_iadd X dL_law_191 ?_
  apply V_iaload X dL_law_192
  · exact hs1
  · exact sc_in (k := 1) hj hn (by decide)
  refine V_aload_n X dL_law_193 rfl rfl ?_
  refine V_iload_n X dL_law_194 rfl ?_
  refine V_iconst (v := 2) X dL_law_195 (by decide) ?_
  refine V_iadd X dL_law_196 ?_
  apply V_iaload X dL_law_197
  · exact hs1
  · exact sc_in (k := 2) hj hn (by decide)
  refine V_aload_n X dL_law_198 rfl rfl ?_
  refine V_iload_n X dL_law_199 rfl ?_
  refine V_iconst (v := 3) X dL_law_200 (by decide) ?_
  refine V_iadd X dL_law_201 ?_
  apply V_iaload X dL_law_202
  · exact hs1
  · exact sc_in (k := 3) hj hn (by decide)
  apply V_callV3 X dL_law_203 mk_L_18 iv_X8_refer (k_refer l ct0 R)
  · exact at_root
  · exact rfl
  · exact Nat.le_of_ble_eq_true rfl
  · exact ⟨Nat.le_of_ble_eq_true rfl, Nat.le_of_ble_eq_true rfl⟩
  · exact ⟨by dsimp only [rmm, room_1]; omega, by dsimp only [rmm, room_1]; omega⟩
  rintro r I1 ⟨rfl, Q1, J1, rfl, R1, F1⟩
  have hs2 : ∀ S1, ovl S (ovc S1 J1) scr = some (.inl (0, aI n f)) := fun S1 => (ovl_k (k := 0) (by decide)).trans ((ovc_k (k := 0) rfl).trans ((F1 0 2 0 (by decide)).trans hs))
  rw [((hM.fj F1).ovc (S1 := _)).ov]
  refine V_aload_n X dL_law_206 rfl rfl ?_
  refine V_aload_n X dL_law_207 rfl rfl ?_
  refine V_iload_n X dL_law_208 rfl ?_
  refine V_iconst (v := 1) X dL_law_209 (by decide) ?_
  refine V_iadd X dL_law_210 ?_
  apply V_iaload X dL_law_211
  · exact hs2 _
  · exact sc_in (k := 1) hj hn (by decide)
  refine V_aload_n X dL_law_212 rfl rfl ?_
  refine V_iload_n X dL_law_213 rfl ?_
  refine V_iconst (v := 2) X dL_law_214 (by decide) ?_
  refine V_iadd X dL_law_215 ?_
  apply V_iaload X dL_law_216
  · exact hs2 _
  · exact sc_in (k := 2) hj hn (by decide)
  refine V_aload_n X dL_law_217 rfl rfl ?_
  refine V_iload_n X dL_law_218 rfl ?_
  refine V_iconst (v := 3) X dL_law_219 (by decide) ?_
  refine V_iadd X dL_law_220 ?_
  apply V_iaload X dL_law_221
  · exact hs2 _
  · exact sc_in (k := 3) hj hn (by decide)
  apply V_callV3 X dL_law_222 mk_L_22 iv_X9_refer (m_refer l ct0.1 ct0.2.1)
  · exact ovl_o
  · exact rfl
  · exact Nat.le_of_ble_eq_true rfl
  · exact ⟨Nat.le_of_ble_eq_true rfl, Nat.le_of_ble_eq_true rfl⟩
  · exact ⟨by dsimp only [rmm, room_1]; omega, by dsimp only [rmm, room_1]; omega⟩
  rintro r I1 ⟨rfl, rfl⟩
  refine V_icmp_eq X dL_law_225 1385 (by decide) (fun c_225 => ?_) (fun c_225 => ?_)
  · exact hk _ _ _ _ (LI.nx R1 F1 hs (up1 cIS.refer hj2) (Nat.le_of_eq (congrArg nn m48_refer.symm)) hcc hss (by dsimp only [rmm]; omega) (by dsimp only [rmm]; omega))
  · exact absurd rfl c_225
set_option maxRecDepth 100000 in
set_option maxHeartbeats 4000000 in
theorem lw_case_change {l : Launch} {Z : Zt} {n : Nat} {f : Nat → Int32} {j : Nat} {S : St} {I : aH} {cells slots : Nat} (X : Fx Z l room_1 cL_law 4 RL (some .boolean) LQ) (hn : n ≤ 5120) (hj : 10 * j + 10 ≤ n) (L : LI n f j S I cells slots) (hk : ∀ S' I' cells' slots', LI n f (j + 1) S' I' cells' slots' → V Z 4 I' [some (.ref scr), some (.ref rO), some (.ref mO), some (.int (nI (10 * j)))] [] cells' slots' 1385) : V Z 4 I [some (.ref scr), some (.ref rO), some (.ref mO), some (.int (nI (10 * j)))] [] cells slots 230 := by
  obtain ⟨Q, J, rfl, R, hM, hs, IS, hcc, hss⟩ := L
  have hs1 : ovc S J scr = some (.inl (0, aI n f)) := (ovc_k (k := 0) rfl).trans hs
  have hub := IS.ub
  have hj2 : j + 1 ≤ 512 := by omega
  have cIS := IS
  obtain ⟨iv, ct0, kd0, ow, fz, mw, ma, bt, rt, mo, kp, lo0, g0⟩ := IS
  refine V_aload_n X dL_law_230 rfl rfl ?_
  refine V_aload_n X dL_law_231 rfl rfl ?_
  refine V_iload_n X dL_law_232 rfl ?_
  refine V_iconst (v := 1) X dL_law_233 (by decide) ?_
  refine V_iadd X dL_law_234 ?_
  apply V_iaload X dL_law_235
  · exact hs1
  · exact sc_in (k := 1) hj hn (by decide)
  refine V_aload_n X dL_law_236 rfl rfl ?_
  refine V_iload_n X dL_law_237 rfl ?_
  refine V_iconst (v := 2) X dL_law_238 (by decide) ?_
  refine V_iadd X dL_law_239 ?_
  apply V_iaload X dL_law_240
  · exact hs1
  · exact sc_in (k := 2) hj hn (by decide)
  refine V_i2l X dL_law_241 ?_
  refine V_bipush (v := 32) X dL_law_242 (by decide) ?_
  refine V_lshl X dL_law_244 ?_
  refine V_aload_n X dL_law_245 rfl rfl ?_
  refine V_iload_n X dL_law_246 rfl ?_
  refine V_iconst (v := 3) X dL_law_247 (by decide) ?_
  refine V_iadd X dL_law_248 ?_
  apply V_iaload X dL_law_249
  · exact hs1
  · exact sc_in (k := 3) hj hn (by decide)
  refine V_i2l X dL_law_250 ?_
  refine V_ldc2 X dL_law_251 kc_L_23 ?_
  refine V_land X dL_law_254 ?_
  refine V_lor X dL_law_255 ?_
  apply V_callV2 X dL_law_256 mk_L_25 iv_X8_change (k_change l ct0 R kd0)
  · exact at_root
  · exact rfl
  · exact Nat.le_of_ble_eq_true rfl
  · exact ⟨Nat.le_of_ble_eq_true rfl, Nat.le_of_ble_eq_true rfl⟩
  · exact ⟨by dsimp only [rmm, room_1]; omega, by dsimp only [rmm, room_1]; omega⟩
  rintro r I1 ⟨rfl, Q1, J1, rfl, R1, F1⟩
  have hs2 : ∀ S1, ovl S (ovc S1 J1) scr = some (.inl (0, aI n f)) := fun S1 => (ovl_k (k := 0) (by decide)).trans ((ovc_k (k := 0) rfl).trans ((F1 0 2 0 (by decide)).trans hs))
  rw [((hM.fj F1).ovc (S1 := _)).ov]
  refine V_aload_n X dL_law_259 rfl rfl ?_
  refine V_aload_n X dL_law_260 rfl rfl ?_
  refine V_iload_n X dL_law_261 rfl ?_
  refine V_iconst (v := 1) X dL_law_262 (by decide) ?_
  refine V_iadd X dL_law_263 ?_
  apply V_iaload X dL_law_264
  · exact hs2 _
  · exact sc_in (k := 1) hj hn (by decide)
  refine V_aload_n X dL_law_265 rfl rfl ?_
  refine V_iload_n X dL_law_266 rfl ?_
  refine V_iconst (v := 2) X dL_law_267 (by decide) ?_
  refine V_iadd X dL_law_268 ?_
  apply V_iaload X dL_law_269
  · exact hs2 _
  · exact sc_in (k := 2) hj hn (by decide)
  refine V_i2l X dL_law_270 ?_
  refine V_bipush (v := 32) X dL_law_271 (by decide) ?_
  refine V_lshl X dL_law_273 ?_
  refine V_aload_n X dL_law_274 rfl rfl ?_
  refine V_iload_n X dL_law_275 rfl ?_
  refine V_iconst (v := 3) X dL_law_276 (by decide) ?_
  refine V_iadd X dL_law_277 ?_
  apply V_iaload X dL_law_278
  · exact hs2 _
  · exact sc_in (k := 3) hj hn (by decide)
  refine V_i2l X dL_law_279 ?_
  refine V_ldc2 X dL_law_280 kc_L_23 ?_
  refine V_land X dL_law_283 ?_
  refine V_lor X dL_law_284 ?_
  apply V_callV2 X dL_law_285 mk_L_29 iv_X9_change (m_change l ct0.1)
  · exact ovl_o
  · exact rfl
  · exact Nat.le_of_ble_eq_true rfl
  · exact ⟨Nat.le_of_ble_eq_true rfl, Nat.le_of_ble_eq_true rfl⟩
  · exact ⟨by dsimp only [rmm, room_1]; omega, by dsimp only [rmm, room_1]; omega⟩
  rintro r I1 ⟨rfl, rfl⟩
  refine V_icmp_eq X dL_law_288 1385 (by decide) (fun c_288 => ?_) (fun c_288 => ?_)
  · exact hk _ _ _ _ (LI.nx R1 F1 hs (up1 cIS.change hj2) (Nat.le_of_eq (congrArg nn m48_change.symm)) hcc hss (by dsimp only [rmm]; omega) (by dsimp only [rmm]; omega))
  · exact absurd rfl c_288
set_option maxRecDepth 100000 in
set_option maxHeartbeats 4000000 in
theorem lw_case_tick {l : Launch} {Z : Zt} {n : Nat} {f : Nat → Int32} {j : Nat} {S : St} {I : aH} {cells slots : Nat} (X : Fx Z l room_1 cL_law 4 RL (some .boolean) LQ) (hn : n ≤ 5120) (hj : 10 * j + 10 ≤ n) (L : LI n f j S I cells slots) (hk : ∀ S' I' cells' slots', LI n f (j + 1) S' I' cells' slots' → V Z 4 I' [some (.ref scr), some (.ref rO), some (.ref mO), some (.int (nI (10 * j)))] [] cells' slots' 1385) : V Z 4 I [some (.ref scr), some (.ref rO), some (.ref mO), some (.int (nI (10 * j)))] [] cells slots 293 := by
  obtain ⟨Q, J, rfl, R, hM, hs, IS, hcc, hss⟩ := L
  have hs1 : ovc S J scr = some (.inl (0, aI n f)) := (ovc_k (k := 0) rfl).trans hs
  have hub := IS.ub
  have hj2 : j + 1 ≤ 512 := by omega
  have cIS := IS
  obtain ⟨iv, ct0, kd0, ow, fz, mw, ma, bt, rt, mo, kp, lo0, g0⟩ := IS
  refine V_aload_n X dL_law_293 rfl rfl ?_
  refine V_aload_n X dL_law_294 rfl rfl ?_
  refine V_iload_n X dL_law_295 rfl ?_
  refine V_iconst (v := 1) X dL_law_296 (by decide) ?_
  refine V_iadd X dL_law_297 ?_
  apply V_iaload X dL_law_298
  · exact hs1
  · exact sc_in (k := 1) hj hn (by decide)
  have hIT := IN.tick (n := f (nI (10 * j) + 1).toNatClampNeg) cIS (by omega)
  have hTB := hIT.ub
  have hT48 := tick48 (n := f (nI (10 * j) + 1).toNatClampNeg) cIS (by omega)
  apply V_callV1 X dL_law_299 mk_L_30 iv_X8_tick (k_tick l cIS (by omega) R)
  · exact at_root
  · exact rfl
  · exact Nat.le_of_ble_eq_true rfl
  · exact ⟨Nat.le_of_ble_eq_true rfl, Nat.le_of_ble_eq_true rfl⟩
  · exact ⟨by dsimp only [rmm, room_1]; omega, by dsimp only [rmm, room_1]; omega⟩
  rintro r I1 ⟨rfl, Q1, J1, rfl, R1, F1⟩
  have hs2 : ∀ S1, ovl S (ovc S1 J1) scr = some (.inl (0, aI n f)) := fun S1 => (ovl_k (k := 0) (by decide)).trans ((ovc_k (k := 0) rfl).trans ((F1 0 2 0 (by decide)).trans hs))
  rw [((hM.fj F1).ovc (S1 := _)).ov]
  refine V_aload_n X dL_law_302 rfl rfl ?_
  refine V_aload_n X dL_law_303 rfl rfl ?_
  refine V_iload_n X dL_law_304 rfl ?_
  refine V_iconst (v := 1) X dL_law_305 (by decide) ?_
  refine V_iadd X dL_law_306 ?_
  apply V_iaload X dL_law_307
  · exact hs2 _
  · exact sc_in (k := 1) hj hn (by decide)
  apply V_callV1 X dL_law_308 mk_L_33 iv_X9_tick (m_tick l iv)
  · exact ovl_o
  · exact rfl
  · exact Nat.le_of_ble_eq_true rfl
  · exact ⟨Nat.le_of_ble_eq_true rfl, Nat.le_of_ble_eq_true rfl⟩
  · exact ⟨by dsimp only [rmm, room_1]; omega, by dsimp only [rmm, room_1]; omega⟩
  rintro r I1 ⟨rfl, rfl⟩
  refine V_icmp_eq X dL_law_311 1385 (by decide) (fun c_311 => ?_) (fun c_311 => ?_)
  · exact hk _ _ _ _ (LI.next R1 F1 hs ((hIT.up (by omega)).c1 (by omega) hj2) (by dsimp only [rmm]; omega) (by dsimp only [rmm]; omega))
  · exact absurd rfl c_311
set_option maxRecDepth 100000 in
set_option maxHeartbeats 4000000 in
theorem lw_case_session {l : Launch} {Z : Zt} {n : Nat} {f : Nat → Int32} {j : Nat} {S : St} {I : aH} {cells slots : Nat} (X : Fx Z l room_1 cL_law 4 RL (some .boolean) LQ) (hn : n ≤ 5120) (hj : 10 * j + 10 ≤ n) (L : LI n f j S I cells slots) (hk : ∀ S' I' cells' slots', LI n f (j + 1) S' I' cells' slots' → V Z 4 I' [some (.ref scr), some (.ref rO), some (.ref mO), some (.int (nI (10 * j)))] [] cells' slots' 1385) : V Z 4 I [some (.ref scr), some (.ref rO), some (.ref mO), some (.int (nI (10 * j)))] [] cells slots 316 := by
  obtain ⟨Q, J, rfl, R, hM, hs, IS, hcc, hss⟩ := L
  have hs1 : ovc S J scr = some (.inl (0, aI n f)) := (ovc_k (k := 0) rfl).trans hs
  have hub := IS.ub
  have hj2 : j + 1 ≤ 512 := by omega
  have cIS := IS
  obtain ⟨iv, ct0, kd0, ow, fz, mw, ma, bt, rt, mo, kp, lo0, g0⟩ := IS
  refine V_aload_n X dL_law_316 rfl rfl ?_
  refine V_aload_n X dL_law_317 rfl rfl ?_
  refine V_iload_n X dL_law_318 rfl ?_
  refine V_iconst (v := 1) X dL_law_319 (by decide) ?_
  refine V_iadd X dL_law_320 ?_
  apply V_iaload X dL_law_321
  · exact hs1
  · exact sc_in (k := 1) hj hn (by decide)
  apply V_callV1 X dL_law_322 mk_L_34 iv_X8_session (k_session l ct0 R fz)
  · exact at_root
  · exact rfl
  · exact Nat.le_of_ble_eq_true rfl
  · exact ⟨Nat.le_of_ble_eq_true rfl, Nat.le_of_ble_eq_true rfl⟩
  · exact ⟨by dsimp only [rmm, room_1]; omega, by dsimp only [rmm, room_1]; omega⟩
  rintro r I1 ⟨rfl, Q1, J1, rfl, R1, F1⟩
  have hs2 : ∀ S1, ovl S (ovc S1 J1) scr = some (.inl (0, aI n f)) := fun S1 => (ovl_k (k := 0) (by decide)).trans ((ovc_k (k := 0) rfl).trans ((F1 0 2 0 (by decide)).trans hs))
  rw [((hM.fj F1).ovc (S1 := _)).ov]
  refine V_aload_n X dL_law_325 rfl rfl ?_
  refine V_aload_n X dL_law_326 rfl rfl ?_
  refine V_iload_n X dL_law_327 rfl ?_
  refine V_iconst (v := 1) X dL_law_328 (by decide) ?_
  refine V_iadd X dL_law_329 ?_
  apply V_iaload X dL_law_330
  · exact hs2 _
  · exact sc_in (k := 1) hj hn (by decide)
  apply V_callV1 X dL_law_331 mk_L_37 iv_X9_session (m_session l ct0.2.2.1)
  · exact ovl_o
  · exact rfl
  · exact Nat.le_of_ble_eq_true rfl
  · exact ⟨Nat.le_of_ble_eq_true rfl, Nat.le_of_ble_eq_true rfl⟩
  · exact ⟨by dsimp only [rmm, room_1]; omega, by dsimp only [rmm, room_1]; omega⟩
  rintro r I1 ⟨rfl, rfl⟩
  refine V_icmp_eq X dL_law_334 1385 (by decide) (fun c_334 => ?_) (fun c_334 => ?_)
  · exact hk _ _ _ _ (LI.nx R1 F1 hs (up1 cIS.session hj2) (Nat.le_of_eq (congrArg nn m48_session.symm)) hcc hss (by dsimp only [rmm]; omega) (by dsimp only [rmm]; omega))
  · exact absurd rfl c_334
set_option maxRecDepth 100000 in
set_option maxHeartbeats 4000000 in
theorem lw_case_activate {l : Launch} {Z : Zt} {n : Nat} {f : Nat → Int32} {j : Nat} {S : St} {I : aH} {cells slots : Nat} (X : Fx Z l room_1 cL_law 4 RL (some .boolean) LQ) (hn : n ≤ 5120) (hj : 10 * j + 10 ≤ n) (L : LI n f j S I cells slots) (hk : ∀ S' I' cells' slots', LI n f (j + 1) S' I' cells' slots' → V Z 4 I' [some (.ref scr), some (.ref rO), some (.ref mO), some (.int (nI (10 * j)))] [] cells' slots' 1385) : V Z 4 I [some (.ref scr), some (.ref rO), some (.ref mO), some (.int (nI (10 * j)))] [] cells slots 339 := by
  obtain ⟨Q, J, rfl, R, hM, hs, IS, hcc, hss⟩ := L
  have hs1 : ovc S J scr = some (.inl (0, aI n f)) := (ovc_k (k := 0) rfl).trans hs
  have hub := IS.ub
  have hj2 : j + 1 ≤ 512 := by omega
  have cIS := IS
  obtain ⟨iv, ct0, kd0, ow, fz, mw, ma, bt, rt, mo, kp, lo0, g0⟩ := IS
  refine V_aload_n X dL_law_339 rfl rfl ?_
  refine V_aload_n X dL_law_340 rfl rfl ?_
  refine V_iload_n X dL_law_341 rfl ?_
  refine V_iconst (v := 1) X dL_law_342 (by decide) ?_
  refine V_iadd X dL_law_343 ?_
  apply V_iaload X dL_law_344
  · exact hs1
  · exact sc_in (k := 1) hj hn (by decide)
  apply V_callV1 X dL_law_345 mk_L_38 iv_X8_activate (k_activate l ct0 R)
  · exact at_root
  · exact rfl
  · exact Nat.le_of_ble_eq_true rfl
  · exact ⟨Nat.le_of_ble_eq_true rfl, Nat.le_of_ble_eq_true rfl⟩
  · exact ⟨by dsimp only [rmm, room_1]; omega, by dsimp only [rmm, room_1]; omega⟩
  rintro r I1 ⟨rfl, Q1, J1, rfl, R1, F1⟩
  have hs2 : ∀ S1, ovl S (ovc S1 J1) scr = some (.inl (0, aI n f)) := fun S1 => (ovl_k (k := 0) (by decide)).trans ((ovc_k (k := 0) rfl).trans ((F1 0 2 0 (by decide)).trans hs))
  rw [((hM.fj F1).ovc (S1 := _)).ov]
  refine V_aload_n X dL_law_348 rfl rfl ?_
  refine V_aload_n X dL_law_349 rfl rfl ?_
  refine V_iload_n X dL_law_350 rfl ?_
  refine V_iconst (v := 1) X dL_law_351 (by decide) ?_
  refine V_iadd X dL_law_352 ?_
  apply V_iaload X dL_law_353
  · exact hs2 _
  · exact sc_in (k := 1) hj hn (by decide)
  apply V_callV1 X dL_law_354 mk_L_41 iv_X9_activate (m_activate l ct0.2.2.1)
  · exact ovl_o
  · exact rfl
  · exact Nat.le_of_ble_eq_true rfl
  · exact ⟨Nat.le_of_ble_eq_true rfl, Nat.le_of_ble_eq_true rfl⟩
  · exact ⟨by dsimp only [rmm, room_1]; omega, by dsimp only [rmm, room_1]; omega⟩
  rintro r I1 ⟨rfl, rfl⟩
  refine V_icmp_eq X dL_law_357 1385 (by decide) (fun c_357 => ?_) (fun c_357 => ?_)
  · exact hk _ _ _ _ (LI.nx R1 F1 hs (up1 cIS.activate hj2) (Nat.le_of_eq (congrArg nn m48_activate.symm)) hcc hss (by dsimp only [rmm]; omega) (by dsimp only [rmm]; omega))
  · exact absurd rfl c_357
set_option maxRecDepth 100000 in
set_option maxHeartbeats 4000000 in
theorem lw_case_close {l : Launch} {Z : Zt} {n : Nat} {f : Nat → Int32} {j : Nat} {S : St} {I : aH} {cells slots : Nat} (X : Fx Z l room_1 cL_law 4 RL (some .boolean) LQ) (hn : n ≤ 5120) (hj : 10 * j + 10 ≤ n) (L : LI n f j S I cells slots) (hk : ∀ S' I' cells' slots', LI n f (j + 1) S' I' cells' slots' → V Z 4 I' [some (.ref scr), some (.ref rO), some (.ref mO), some (.int (nI (10 * j)))] [] cells' slots' 1385) : V Z 4 I [some (.ref scr), some (.ref rO), some (.ref mO), some (.int (nI (10 * j)))] [] cells slots 362 := by
  obtain ⟨Q, J, rfl, R, hM, hs, IS, hcc, hss⟩ := L
  have hs1 : ovc S J scr = some (.inl (0, aI n f)) := (ovc_k (k := 0) rfl).trans hs
  have hub := IS.ub
  have hj2 : j + 1 ≤ 512 := by omega
  have cIS := IS
  obtain ⟨iv, ct0, kd0, ow, fz, mw, ma, bt, rt, mo, kp, lo0, g0⟩ := IS
  refine V_aload_n X dL_law_362 rfl rfl ?_
  refine V_aload_n X dL_law_363 rfl rfl ?_
  refine V_iload_n X dL_law_364 rfl ?_
  refine V_iconst (v := 1) X dL_law_365 (by decide) ?_
  refine V_iadd X dL_law_366 ?_
  apply V_iaload X dL_law_367
  · exact hs1
  · exact sc_in (k := 1) hj hn (by decide)
  apply V_callV1 X dL_law_368 mk_L_42 iv_X8_close (k_close l ct0 R ow)
  · exact at_root
  · exact rfl
  · exact Nat.le_of_ble_eq_true rfl
  · exact ⟨Nat.le_of_ble_eq_true rfl, Nat.le_of_ble_eq_true rfl⟩
  · exact ⟨by dsimp only [rmm, room_1]; omega, by dsimp only [rmm, room_1]; omega⟩
  rintro r I1 ⟨rfl, Q1, J1, rfl, R1, F1⟩
  have hs2 : ∀ S1, ovl S (ovc S1 J1) scr = some (.inl (0, aI n f)) := fun S1 => (ovl_k (k := 0) (by decide)).trans ((ovc_k (k := 0) rfl).trans ((F1 0 2 0 (by decide)).trans hs))
  rw [((hM.fj F1).ovc (S1 := _)).ov]
  refine V_aload_n X dL_law_371 rfl rfl ?_
  refine V_aload_n X dL_law_372 rfl rfl ?_
  refine V_iload_n X dL_law_373 rfl ?_
  refine V_iconst (v := 1) X dL_law_374 (by decide) ?_
  refine V_iadd X dL_law_375 ?_
  apply V_iaload X dL_law_376
  · exact hs2 _
  · exact sc_in (k := 1) hj hn (by decide)
  apply V_callV1 X dL_law_377 mk_L_45 iv_X9_close (m_close l ct0.2.2.1 ct0.2.2.2.1 ct0.2.2.2.2.1 (ct_up ct0.2.2.2.2.2 (by decide)))
  · exact ovl_o
  · exact rfl
  · exact Nat.le_of_ble_eq_true rfl
  · exact ⟨Nat.le_of_ble_eq_true rfl, Nat.le_of_ble_eq_true rfl⟩
  · exact ⟨by dsimp only [rmm, room_1]; omega, by dsimp only [rmm, room_1]; omega⟩
  rintro r I1 ⟨rfl, rfl⟩
  refine V_icmp_eq X dL_law_380 1385 (by decide) (fun c_380 => ?_) (fun c_380 => ?_)
  · exact hk _ _ _ _ (LI.nx R1 F1 hs (up1 cIS.close hj2) (Nat.le_of_eq (congrArg nn m48_close.symm)) hcc hss (by dsimp only [rmm]; omega) (by dsimp only [rmm]; omega))
  · exact absurd rfl c_380
set_option maxRecDepth 100000 in
set_option maxHeartbeats 4000000 in
theorem lw_case_browse {l : Launch} {Z : Zt} {n : Nat} {f : Nat → Int32} {j : Nat} {S : St} {I : aH} {cells slots : Nat} (X : Fx Z l room_1 cL_law 4 RL (some .boolean) LQ) (hn : n ≤ 5120) (hj : 10 * j + 10 ≤ n) (L : LI n f j S I cells slots) (hk : ∀ S' I' cells' slots', LI n f (j + 1) S' I' cells' slots' → V Z 4 I' [some (.ref scr), some (.ref rO), some (.ref mO), some (.int (nI (10 * j)))] [] cells' slots' 1385) : V Z 4 I [some (.ref scr), some (.ref rO), some (.ref mO), some (.int (nI (10 * j)))] [] cells slots 385 := by
  obtain ⟨Q, J, rfl, R, hM, hs, IS, hcc, hss⟩ := L
  have hs1 : ovc S J scr = some (.inl (0, aI n f)) := (ovc_k (k := 0) rfl).trans hs
  have hub := IS.ub
  have hj2 : j + 1 ≤ 512 := by omega
  have cIS := IS
  obtain ⟨iv, ct0, kd0, ow, fz, mw, ma, bt, rt, mo, kp, lo0, g0⟩ := IS
  refine V_aload_n X dL_law_385 rfl rfl ?_
  refine V_aload_n X dL_law_386 rfl rfl ?_
  refine V_iload_n X dL_law_387 rfl ?_
  refine V_iconst (v := 1) X dL_law_388 (by decide) ?_
  refine V_iadd X dL_law_389 ?_
  apply V_iaload X dL_law_390
  · exact hs1
  · exact sc_in (k := 1) hj hn (by decide)
  refine V_aload_n X dL_law_391 rfl rfl ?_
  refine V_iload_n X dL_law_392 rfl ?_
  refine V_iconst (v := 2) X dL_law_393 (by decide) ?_
  refine V_iadd X dL_law_394 ?_
  apply V_iaload X dL_law_395
  · exact hs1
  · exact sc_in (k := 2) hj hn (by decide)
  refine V_aload_n X dL_law_396 rfl rfl ?_
  refine V_iload_n X dL_law_397 rfl ?_
  refine V_iconst (v := 3) X dL_law_398 (by decide) ?_
  refine V_iadd X dL_law_399 ?_
  apply V_iaload X dL_law_400
  · exact hs1
  · exact sc_in (k := 3) hj hn (by decide)
  refine V_aload_n X dL_law_401 rfl rfl ?_
  refine V_iload_n X dL_law_402 rfl ?_
  refine V_iconst (v := 4) X dL_law_403 (by decide) ?_
  refine V_iadd X dL_law_404 ?_
  apply V_iaload X dL_law_405
  · exact hs1
  · exact sc_in (k := 4) hj hn (by decide)
  refine V_aload_n X dL_law_406 rfl rfl ?_
  refine V_iload_n X dL_law_407 rfl ?_
  refine V_iconst (v := 5) X dL_law_408 (by decide) ?_
  refine V_iadd X dL_law_409 ?_
  apply V_iaload X dL_law_410
  · exact hs1
  · exact sc_in (k := 5) hj hn (by decide)
  apply V_callV5 X dL_law_411 mk_L_46 iv_X8_browse (k_browse l ct0 R rt)
  · exact at_root
  · exact rfl
  · exact Nat.le_of_ble_eq_true rfl
  · exact ⟨Nat.le_of_ble_eq_true rfl, Nat.le_of_ble_eq_true rfl⟩
  · exact ⟨by dsimp only [rmm, room_1]; omega, by dsimp only [rmm, room_1]; omega⟩
  rintro r I1 ⟨rfl, Q1, J1, rfl, R1, F1⟩
  have hs2 : ∀ S1, ovl S (ovc S1 J1) scr = some (.inl (0, aI n f)) := fun S1 => (ovl_k (k := 0) (by decide)).trans ((ovc_k (k := 0) rfl).trans ((F1 0 2 0 (by decide)).trans hs))
  rw [((hM.fj F1).ovc (S1 := _)).ov]
  refine V_aload_n X dL_law_414 rfl rfl ?_
  refine V_aload_n X dL_law_415 rfl rfl ?_
  refine V_iload_n X dL_law_416 rfl ?_
  refine V_iconst (v := 1) X dL_law_417 (by decide) ?_
  refine V_iadd X dL_law_418 ?_
  apply V_iaload X dL_law_419
  · exact hs2 _
  · exact sc_in (k := 1) hj hn (by decide)
  refine V_aload_n X dL_law_420 rfl rfl ?_
  refine V_iload_n X dL_law_421 rfl ?_
  refine V_iconst (v := 2) X dL_law_422 (by decide) ?_
  refine V_iadd X dL_law_423 ?_
  apply V_iaload X dL_law_424
  · exact hs2 _
  · exact sc_in (k := 2) hj hn (by decide)
  refine V_aload_n X dL_law_425 rfl rfl ?_
  refine V_iload_n X dL_law_426 rfl ?_
  refine V_iconst (v := 3) X dL_law_427 (by decide) ?_
  refine V_iadd X dL_law_428 ?_
  apply V_iaload X dL_law_429
  · exact hs2 _
  · exact sc_in (k := 3) hj hn (by decide)
  refine V_aload_n X dL_law_430 rfl rfl ?_
  refine V_iload_n X dL_law_431 rfl ?_
  refine V_iconst (v := 4) X dL_law_432 (by decide) ?_
  refine V_iadd X dL_law_433 ?_
  apply V_iaload X dL_law_434
  · exact hs2 _
  · exact sc_in (k := 4) hj hn (by decide)
  refine V_aload_n X dL_law_435 rfl rfl ?_
  refine V_iload_n X dL_law_436 rfl ?_
  refine V_iconst (v := 5) X dL_law_437 (by decide) ?_
  refine V_iadd X dL_law_438 ?_
  apply V_iaload X dL_law_439
  · exact hs2 _
  · exact sc_in (k := 5) hj hn (by decide)
  apply V_callV5 X dL_law_440 mk_L_50 iv_X9_browse (m_browse l ct0.1 ct0.2.1 ct0.2.2.1)
  · exact ovl_o
  · exact rfl
  · exact Nat.le_of_ble_eq_true rfl
  · exact ⟨Nat.le_of_ble_eq_true rfl, Nat.le_of_ble_eq_true rfl⟩
  · exact ⟨by dsimp only [rmm, room_1]; omega, by dsimp only [rmm, room_1]; omega⟩
  rintro r I1 ⟨rfl, rfl⟩
  refine V_icmp_eq X dL_law_443 1385 (by decide) (fun c_443 => ?_) (fun c_443 => ?_)
  · exact hk _ _ _ _ (LI.nx R1 F1 hs (up1 cIS.browse hj2) (Nat.le_of_eq (congrArg nn m48_browse.symm)) hcc hss (by dsimp only [rmm]; omega) (by dsimp only [rmm]; omega))
  · exact absurd rfl c_443
set_option maxRecDepth 100000 in
set_option maxHeartbeats 4000000 in
theorem lw_case_read {l : Launch} {Z : Zt} {n : Nat} {f : Nat → Int32} {j : Nat} {S : St} {I : aH} {cells slots : Nat} (X : Fx Z l room_1 cL_law 4 RL (some .boolean) LQ) (hn : n ≤ 5120) (hj : 10 * j + 10 ≤ n) (L : LI n f j S I cells slots) (hk : ∀ S' I' cells' slots', LI n f (j + 1) S' I' cells' slots' → V Z 4 I' [some (.ref scr), some (.ref rO), some (.ref mO), some (.int (nI (10 * j)))] [] cells' slots' 1385) : V Z 4 I [some (.ref scr), some (.ref rO), some (.ref mO), some (.int (nI (10 * j)))] [] cells slots 448 := by
  obtain ⟨Q, J, rfl, R, hM, hs, IS, hcc, hss⟩ := L
  have hs1 : ovc S J scr = some (.inl (0, aI n f)) := (ovc_k (k := 0) rfl).trans hs
  have hub := IS.ub
  have hj2 : j + 1 ≤ 512 := by omega
  have cIS := IS
  obtain ⟨iv, ct0, kd0, ow, fz, mw, ma, bt, rt, mo, kp, lo0, g0⟩ := IS
  refine V_aload_n X dL_law_448 rfl rfl ?_
  refine V_aload_n X dL_law_449 rfl rfl ?_
  refine V_iload_n X dL_law_450 rfl ?_
  refine V_iconst (v := 1) X dL_law_451 (by decide) ?_
  refine V_iadd X dL_law_452 ?_
  apply V_iaload X dL_law_453
  · exact hs1
  · exact sc_in (k := 1) hj hn (by decide)
  refine V_aload_n X dL_law_454 rfl rfl ?_
  refine V_iload_n X dL_law_455 rfl ?_
  refine V_iconst (v := 2) X dL_law_456 (by decide) ?_
  refine V_iadd X dL_law_457 ?_
  apply V_iaload X dL_law_458
  · exact hs1
  · exact sc_in (k := 2) hj hn (by decide)
  apply V_callV2 X dL_law_459 mk_L_51 iv_X8_read (k_read l ct0 R kd0)
  · exact at_root
  · exact rfl
  · exact Nat.le_of_ble_eq_true rfl
  · exact ⟨Nat.le_of_ble_eq_true rfl, Nat.le_of_ble_eq_true rfl⟩
  · exact ⟨by dsimp only [rmm, room_1]; omega, by dsimp only [rmm, room_1]; omega⟩
  rintro r I1 ⟨rfl, Q1, J1, rfl, R1, F1⟩
  have hs2 : ∀ S1, ovl S (ovc S1 J1) scr = some (.inl (0, aI n f)) := fun S1 => (ovl_k (k := 0) (by decide)).trans ((ovc_k (k := 0) rfl).trans ((F1 0 2 0 (by decide)).trans hs))
  rw [((hM.fj F1).ovc (S1 := _)).ov]
  refine V_aload_n X dL_law_462 rfl rfl ?_
  refine V_aload_n X dL_law_463 rfl rfl ?_
  refine V_iload_n X dL_law_464 rfl ?_
  refine V_iconst (v := 1) X dL_law_465 (by decide) ?_
  refine V_iadd X dL_law_466 ?_
  apply V_iaload X dL_law_467
  · exact hs2 _
  · exact sc_in (k := 1) hj hn (by decide)
  refine V_aload_n X dL_law_468 rfl rfl ?_
  refine V_iload_n X dL_law_469 rfl ?_
  refine V_iconst (v := 2) X dL_law_470 (by decide) ?_
  refine V_iadd X dL_law_471 ?_
  apply V_iaload X dL_law_472
  · exact hs2 _
  · exact sc_in (k := 2) hj hn (by decide)
  apply V_callV2 X dL_law_473 mk_L_55 iv_X9_read (m_read l ct0.1 ct0.2.2.1)
  · exact ovl_o
  · exact rfl
  · exact Nat.le_of_ble_eq_true rfl
  · exact ⟨Nat.le_of_ble_eq_true rfl, Nat.le_of_ble_eq_true rfl⟩
  · exact ⟨by dsimp only [rmm, room_1]; omega, by dsimp only [rmm, room_1]; omega⟩
  rintro r I1 ⟨rfl, rfl⟩
  refine V_icmp_eq X dL_law_476 1385 (by decide) (fun c_476 => ?_) (fun c_476 => ?_)
  · exact hk _ _ _ _ (LI.nx R1 F1 hs (up1 cIS.read hj2) (Nat.le_of_eq (congrArg nn m48_read.symm)) hcc hss (by dsimp only [rmm]; omega) (by dsimp only [rmm]; omega))
  · exact absurd rfl c_476
set_option maxRecDepth 100000 in
set_option maxHeartbeats 4000000 in
theorem lw_case_value {l : Launch} {Z : Zt} {n : Nat} {f : Nat → Int32} {j : Nat} {S : St} {I : aH} {cells slots : Nat} (X : Fx Z l room_1 cL_law 4 RL (some .boolean) LQ) (hn : n ≤ 5120) (hj : 10 * j + 10 ≤ n) (L : LI n f j S I cells slots) (hk : ∀ S' I' cells' slots', LI n f (j + 1) S' I' cells' slots' → V Z 4 I' [some (.ref scr), some (.ref rO), some (.ref mO), some (.int (nI (10 * j)))] [] cells' slots' 1385) : V Z 4 I [some (.ref scr), some (.ref rO), some (.ref mO), some (.int (nI (10 * j)))] [] cells slots 481 := by
  obtain ⟨Q, J, rfl, R, hM, hs, IS, hcc, hss⟩ := L
  have hs1 : ovc S J scr = some (.inl (0, aI n f)) := (ovc_k (k := 0) rfl).trans hs
  have hub := IS.ub
  have hj2 : j + 1 ≤ 512 := by omega
  have cIS := IS
  obtain ⟨iv, ct0, kd0, ow, fz, mw, ma, bt, rt, mo, kp, lo0, g0⟩ := IS
  have hs2 : ∀ S1, ovl S (ovc S1 J) scr = some (.inl (0, aI n f)) := fun S1 => (ovl_k (k := 0) (by decide)).trans ((ovc_k (k := 0) rfl).trans hs)
  refine V_aload_n X dL_law_481 rfl rfl ?_
  apply V_callV0 X dL_law_482 mk_L_56 iv_X8_value (k_value l (S := S) (J := J))
  · exact at_root
  · exact rfl
  · exact Nat.le_of_ble_eq_true rfl
  · exact ⟨Nat.le_of_ble_eq_true rfl, Nat.le_of_ble_eq_true rfl⟩
  · exact ⟨by dsimp only [rmm, room_1]; omega, by dsimp only [rmm, room_1]; omega⟩
  rintro r I1 ⟨rfl, rfl⟩
  rw [(hM.ovc (S1 := _)).ov]
  refine V_aload_n X dL_law_485 rfl rfl ?_
  apply V_callV0 X dL_law_486 mk_L_60 iv_X9_value (m_value l)
  · exact ovl_o
  · exact rfl
  · exact Nat.le_of_ble_eq_true rfl
  · exact ⟨Nat.le_of_ble_eq_true rfl, Nat.le_of_ble_eq_true rfl⟩
  · exact ⟨by dsimp only [rmm, room_1]; omega, by dsimp only [rmm, room_1]; omega⟩
  rintro r I1 ⟨rfl, rfl⟩
  refine V_lcmp X dL_law_489 ?_
  rw [lcmp0]
  refine V_if_eq X dL_law_490 1385 (by decide) (fun c_490 => ?_) (fun c_490 => ?_)
  · exact hk _ _ _ _ (LI.nx R FJ.rf hs (up1 cIS hj2) (Nat.le_refl _) hcc hss (by dsimp only [rmm]; omega) (by dsimp only [rmm]; omega))
  · exact absurd rfl c_490
set_option maxRecDepth 100000 in
set_option maxHeartbeats 4000000 in
theorem lw_case_write {l : Launch} {Z : Zt} {n : Nat} {f : Nat → Int32} {j : Nat} {S : St} {I : aH} {cells slots : Nat} (X : Fx Z l room_1 cL_law 4 RL (some .boolean) LQ) (hn : n ≤ 5120) (hj : 10 * j + 10 ≤ n) (L : LI n f j S I cells slots) (hk : ∀ S' I' cells' slots', LI n f (j + 1) S' I' cells' slots' → V Z 4 I' [some (.ref scr), some (.ref rO), some (.ref mO), some (.int (nI (10 * j)))] [] cells' slots' 1385) : V Z 4 I [some (.ref scr), some (.ref rO), some (.ref mO), some (.int (nI (10 * j)))] [] cells slots 495 := by
  obtain ⟨Q, J, rfl, R, hM, hs, IS, hcc, hss⟩ := L
  have hs1 : ovc S J scr = some (.inl (0, aI n f)) := (ovc_k (k := 0) rfl).trans hs
  have hub := IS.ub
  have hj2 : j + 1 ≤ 512 := by omega
  have cIS := IS
  obtain ⟨iv, ct0, kd0, ow, fz, mw, ma, bt, rt, mo, kp, lo0, g0⟩ := IS
  refine V_aload_n X dL_law_495 rfl rfl ?_
  refine V_aload_n X dL_law_496 rfl rfl ?_
  refine V_iload_n X dL_law_497 rfl ?_
  refine V_iconst (v := 1) X dL_law_498 (by decide) ?_
  refine V_iadd X dL_law_499 ?_
  apply V_iaload X dL_law_500
  · exact hs1
  · exact sc_in (k := 1) hj hn (by decide)
  refine V_aload_n X dL_law_501 rfl rfl ?_
  refine V_iload_n X dL_law_502 rfl ?_
  refine V_iconst (v := 2) X dL_law_503 (by decide) ?_
  refine V_iadd X dL_law_504 ?_
  apply V_iaload X dL_law_505
  · exact hs1
  · exact sc_in (k := 2) hj hn (by decide)
  refine V_aload_n X dL_law_506 rfl rfl ?_
  refine V_iload_n X dL_law_507 rfl ?_
  refine V_iconst (v := 3) X dL_law_508 (by decide) ?_
  refine V_iadd X dL_law_509 ?_
  apply V_iaload X dL_law_510
  · exact hs1
  · exact sc_in (k := 3) hj hn (by decide)
  refine V_i2l X dL_law_511 ?_
  refine V_bipush (v := 32) X dL_law_512 (by decide) ?_
  refine V_lshl X dL_law_514 ?_
  refine V_aload_n X dL_law_515 rfl rfl ?_
  refine V_iload_n X dL_law_516 rfl ?_
  refine V_iconst (v := 4) X dL_law_517 (by decide) ?_
  refine V_iadd X dL_law_518 ?_
  apply V_iaload X dL_law_519
  · exact hs1
  · exact sc_in (k := 4) hj hn (by decide)
  refine V_i2l X dL_law_520 ?_
  refine V_ldc2 X dL_law_521 kc_L_23 ?_
  refine V_land X dL_law_524 ?_
  refine V_lor X dL_law_525 ?_
  apply V_callV3 X dL_law_526 mk_L_61 iv_X8_write (k_write l ct0 R kd0)
  · exact at_root
  · exact rfl
  · exact Nat.le_of_ble_eq_true rfl
  · exact ⟨Nat.le_of_ble_eq_true rfl, Nat.le_of_ble_eq_true rfl⟩
  · exact ⟨by dsimp only [rmm, room_1]; omega, by dsimp only [rmm, room_1]; omega⟩
  rintro r I1 ⟨rfl, Q1, J1, rfl, R1, F1⟩
  have hs2 : ∀ S1, ovl S (ovc S1 J1) scr = some (.inl (0, aI n f)) := fun S1 => (ovl_k (k := 0) (by decide)).trans ((ovc_k (k := 0) rfl).trans ((F1 0 2 0 (by decide)).trans hs))
  rw [((hM.fj F1).ovc (S1 := _)).ov]
  refine V_aload_n X dL_law_529 rfl rfl ?_
  refine V_aload_n X dL_law_530 rfl rfl ?_
  refine V_iload_n X dL_law_531 rfl ?_
  refine V_iconst (v := 1) X dL_law_532 (by decide) ?_
  refine V_iadd X dL_law_533 ?_
  apply V_iaload X dL_law_534
  · exact hs2 _
  · exact sc_in (k := 1) hj hn (by decide)
  refine V_aload_n X dL_law_535 rfl rfl ?_
  refine V_iload_n X dL_law_536 rfl ?_
  refine V_iconst (v := 2) X dL_law_537 (by decide) ?_
  refine V_iadd X dL_law_538 ?_
  apply V_iaload X dL_law_539
  · exact hs2 _
  · exact sc_in (k := 2) hj hn (by decide)
  refine V_aload_n X dL_law_540 rfl rfl ?_
  refine V_iload_n X dL_law_541 rfl ?_
  refine V_iconst (v := 3) X dL_law_542 (by decide) ?_
  refine V_iadd X dL_law_543 ?_
  apply V_iaload X dL_law_544
  · exact hs2 _
  · exact sc_in (k := 3) hj hn (by decide)
  refine V_i2l X dL_law_545 ?_
  refine V_bipush (v := 32) X dL_law_546 (by decide) ?_
  refine V_lshl X dL_law_548 ?_
  refine V_aload_n X dL_law_549 rfl rfl ?_
  refine V_iload_n X dL_law_550 rfl ?_
  refine V_iconst (v := 4) X dL_law_551 (by decide) ?_
  refine V_iadd X dL_law_552 ?_
  apply V_iaload X dL_law_553
  · exact hs2 _
  · exact sc_in (k := 4) hj hn (by decide)
  refine V_i2l X dL_law_554 ?_
  refine V_ldc2 X dL_law_555 kc_L_23 ?_
  refine V_land X dL_law_558 ?_
  refine V_lor X dL_law_559 ?_
  apply V_callV3 X dL_law_560 mk_L_65 iv_X9_write (m_write l ct0.1 ct0.2.2.1)
  · exact ovl_o
  · exact rfl
  · exact Nat.le_of_ble_eq_true rfl
  · exact ⟨Nat.le_of_ble_eq_true rfl, Nat.le_of_ble_eq_true rfl⟩
  · exact ⟨by dsimp only [rmm, room_1]; omega, by dsimp only [rmm, room_1]; omega⟩
  rintro r I1 ⟨rfl, rfl⟩
  refine V_icmp_eq X dL_law_563 1385 (by decide) (fun c_563 => ?_) (fun c_563 => ?_)
  · exact hk _ _ _ _ (LI.nx R1 F1 hs (up1 cIS.write hj2) (Nat.le_of_eq (congrArg nn m48_write.symm)) hcc hss (by dsimp only [rmm]; omega) (by dsimp only [rmm]; omega))
  · exact absurd rfl c_563
set_option maxRecDepth 100000 in
set_option maxHeartbeats 4000000 in
theorem lw_case_subscribe {l : Launch} {Z : Zt} {n : Nat} {f : Nat → Int32} {j : Nat} {S : St} {I : aH} {cells slots : Nat} (X : Fx Z l room_1 cL_law 4 RL (some .boolean) LQ) (hn : n ≤ 5120) (hj : 10 * j + 10 ≤ n) (L : LI n f j S I cells slots) (hk : ∀ S' I' cells' slots', LI n f (j + 1) S' I' cells' slots' → V Z 4 I' [some (.ref scr), some (.ref rO), some (.ref mO), some (.int (nI (10 * j)))] [] cells' slots' 1385) : V Z 4 I [some (.ref scr), some (.ref rO), some (.ref mO), some (.int (nI (10 * j)))] [] cells slots 568 := by
  obtain ⟨Q, J, rfl, R, hM, hs, IS, hcc, hss⟩ := L
  have hs1 : ovc S J scr = some (.inl (0, aI n f)) := (ovc_k (k := 0) rfl).trans hs
  have hub := IS.ub
  have hj2 : j + 1 ≤ 512 := by omega
  have cIS := IS
  obtain ⟨iv, ct0, kd0, ow, fz, mw, ma, bt, rt, mo, kp, lo0, g0⟩ := IS
  refine V_aload_n X dL_law_568 rfl rfl ?_
  refine V_aload_n X dL_law_569 rfl rfl ?_
  refine V_iload_n X dL_law_570 rfl ?_
  refine V_iconst (v := 1) X dL_law_571 (by decide) ?_
  refine V_iadd X dL_law_572 ?_
  apply V_iaload X dL_law_573
  · exact hs1
  · exact sc_in (k := 1) hj hn (by decide)
  refine V_aload_n X dL_law_574 rfl rfl ?_
  refine V_iload_n X dL_law_575 rfl ?_
  refine V_iconst (v := 2) X dL_law_576 (by decide) ?_
  refine V_iadd X dL_law_577 ?_
  apply V_iaload X dL_law_578
  · exact hs1
  · exact sc_in (k := 2) hj hn (by decide)
  refine V_aload_n X dL_law_579 rfl rfl ?_
  refine V_iload_n X dL_law_580 rfl ?_
  refine V_iconst (v := 3) X dL_law_581 (by decide) ?_
  refine V_iadd X dL_law_582 ?_
  apply V_iaload X dL_law_583
  · exact hs1
  · exact sc_in (k := 3) hj hn (by decide)
  refine V_aload_n X dL_law_584 rfl rfl ?_
  refine V_iload_n X dL_law_585 rfl ?_
  refine V_iconst (v := 4) X dL_law_586 (by decide) ?_
  refine V_iadd X dL_law_587 ?_
  apply V_iaload X dL_law_588
  · exact hs1
  · exact sc_in (k := 4) hj hn (by decide)
  refine V_aload_n X dL_law_589 rfl rfl ?_
  refine V_iload_n X dL_law_590 rfl ?_
  refine V_iconst (v := 5) X dL_law_591 (by decide) ?_
  refine V_iadd X dL_law_592 ?_
  apply V_iaload X dL_law_593
  · exact hs1
  · exact sc_in (k := 5) hj hn (by decide)
  apply V_callV5 X dL_law_594 mk_L_66 iv_X8_subscribe (k_subscribe l ct0 R fz ow mw)
  · exact at_root
  · exact rfl
  · exact Nat.le_of_ble_eq_true rfl
  · exact ⟨Nat.le_of_ble_eq_true rfl, Nat.le_of_ble_eq_true rfl⟩
  · exact ⟨by dsimp only [rmm, room_1]; omega, by dsimp only [rmm, room_1]; omega⟩
  rintro r I1 ⟨rfl, Q1, J1, rfl, R1, F1⟩
  have hs2 : ∀ S1, ovl S (ovc S1 J1) scr = some (.inl (0, aI n f)) := fun S1 => (ovl_k (k := 0) (by decide)).trans ((ovc_k (k := 0) rfl).trans ((F1 0 2 0 (by decide)).trans hs))
  rw [((hM.fj F1).ovc (S1 := _)).ov]
  refine V_aload_n X dL_law_597 rfl rfl ?_
  refine V_aload_n X dL_law_598 rfl rfl ?_
  refine V_iload_n X dL_law_599 rfl ?_
  refine V_iconst (v := 1) X dL_law_600 (by decide) ?_
  refine V_iadd X dL_law_601 ?_
  apply V_iaload X dL_law_602
  · exact hs2 _
  · exact sc_in (k := 1) hj hn (by decide)
  refine V_aload_n X dL_law_603 rfl rfl ?_
  refine V_iload_n X dL_law_604 rfl ?_
  refine V_iconst (v := 2) X dL_law_605 (by decide) ?_
  refine V_iadd X dL_law_606 ?_
  apply V_iaload X dL_law_607
  · exact hs2 _
  · exact sc_in (k := 2) hj hn (by decide)
  refine V_aload_n X dL_law_608 rfl rfl ?_
  refine V_iload_n X dL_law_609 rfl ?_
  refine V_iconst (v := 3) X dL_law_610 (by decide) ?_
  refine V_iadd X dL_law_611 ?_
  apply V_iaload X dL_law_612
  · exact hs2 _
  · exact sc_in (k := 3) hj hn (by decide)
  refine V_aload_n X dL_law_613 rfl rfl ?_
  refine V_iload_n X dL_law_614 rfl ?_
  refine V_iconst (v := 4) X dL_law_615 (by decide) ?_
  refine V_iadd X dL_law_616 ?_
  apply V_iaload X dL_law_617
  · exact hs2 _
  · exact sc_in (k := 4) hj hn (by decide)
  refine V_aload_n X dL_law_618 rfl rfl ?_
  refine V_iload_n X dL_law_619 rfl ?_
  refine V_iconst (v := 5) X dL_law_620 (by decide) ?_
  refine V_iadd X dL_law_621 ?_
  apply V_iaload X dL_law_622
  · exact hs2 _
  · exact sc_in (k := 5) hj hn (by decide)
  apply V_callV5 X dL_law_623 mk_L_69 iv_X9_subscribe (m_subscribe l ct0.2.2.1 ct0.2.2.2.1)
  · exact ovl_o
  · exact rfl
  · exact Nat.le_of_ble_eq_true rfl
  · exact ⟨Nat.le_of_ble_eq_true rfl, Nat.le_of_ble_eq_true rfl⟩
  · exact ⟨by dsimp only [rmm, room_1]; omega, by dsimp only [rmm, room_1]; omega⟩
  rintro r I1 ⟨rfl, rfl⟩
  refine V_icmp_eq X dL_law_626 1385 (by decide) (fun c_626 => ?_) (fun c_626 => ?_)
  · exact hk _ _ _ _ (LI.nx R1 F1 hs (up1 cIS.subscribe hj2) (Nat.le_of_eq (congrArg nn m48_subscribe.symm)) hcc hss (by dsimp only [rmm]; omega) (by dsimp only [rmm]; omega))
  · exact absurd rfl c_626
set_option maxRecDepth 100000 in
set_option maxHeartbeats 4000000 in
theorem lw_case_modify {l : Launch} {Z : Zt} {n : Nat} {f : Nat → Int32} {j : Nat} {S : St} {I : aH} {cells slots : Nat} (X : Fx Z l room_1 cL_law 4 RL (some .boolean) LQ) (hn : n ≤ 5120) (hj : 10 * j + 10 ≤ n) (L : LI n f j S I cells slots) (hk : ∀ S' I' cells' slots', LI n f (j + 1) S' I' cells' slots' → V Z 4 I' [some (.ref scr), some (.ref rO), some (.ref mO), some (.int (nI (10 * j)))] [] cells' slots' 1385) : V Z 4 I [some (.ref scr), some (.ref rO), some (.ref mO), some (.int (nI (10 * j)))] [] cells slots 631 := by
  obtain ⟨Q, J, rfl, R, hM, hs, IS, hcc, hss⟩ := L
  have hs1 : ovc S J scr = some (.inl (0, aI n f)) := (ovc_k (k := 0) rfl).trans hs
  have hub := IS.ub
  have hj2 : j + 1 ≤ 512 := by omega
  have cIS := IS
  obtain ⟨iv, ct0, kd0, ow, fz, mw, ma, bt, rt, mo, kp, lo0, g0⟩ := IS
  refine V_aload_n X dL_law_631 rfl rfl ?_
  refine V_aload_n X dL_law_632 rfl rfl ?_
  refine V_iload_n X dL_law_633 rfl ?_
  refine V_iconst (v := 1) X dL_law_634 (by decide) ?_
  refine V_iadd X dL_law_635 ?_
  apply V_iaload X dL_law_636
  · exact hs1
  · exact sc_in (k := 1) hj hn (by decide)
  refine V_aload_n X dL_law_637 rfl rfl ?_
  refine V_iload_n X dL_law_638 rfl ?_
  refine V_iconst (v := 2) X dL_law_639 (by decide) ?_
  refine V_iadd X dL_law_640 ?_
  apply V_iaload X dL_law_641
  · exact hs1
  · exact sc_in (k := 2) hj hn (by decide)
  refine V_aload_n X dL_law_642 rfl rfl ?_
  refine V_iload_n X dL_law_643 rfl ?_
  refine V_iconst (v := 3) X dL_law_644 (by decide) ?_
  refine V_iadd X dL_law_645 ?_
  apply V_iaload X dL_law_646
  · exact hs1
  · exact sc_in (k := 3) hj hn (by decide)
  refine V_aload_n X dL_law_647 rfl rfl ?_
  refine V_iload_n X dL_law_648 rfl ?_
  refine V_iconst (v := 4) X dL_law_649 (by decide) ?_
  refine V_iadd X dL_law_650 ?_
  apply V_iaload X dL_law_651
  · exact hs1
  · exact sc_in (k := 4) hj hn (by decide)
  refine V_aload_n X dL_law_652 rfl rfl ?_
  refine V_iload_n X dL_law_653 rfl ?_
  refine V_iconst (v := 5) X dL_law_654 (by decide) ?_
  refine V_iadd X dL_law_655 ?_
  apply V_iaload X dL_law_656
  · exact hs1
  · exact sc_in (k := 5) hj hn (by decide)
  refine V_aload_n X dL_law_657 rfl rfl ?_
  refine V_iload_n X dL_law_658 rfl ?_
  refine V_bipush (v := 6) X dL_law_659 (by decide) ?_
  refine V_iadd X dL_law_661 ?_
  apply V_iaload X dL_law_662
  · exact hs1
  · exact sc_in (k := 6) hj hn (by decide)
  apply V_callV6 X dL_law_663 mk_L_70 iv_X8_modify (k_modify l ct0 R ow)
  · exact at_root
  · exact rfl
  · exact Nat.le_of_ble_eq_true rfl
  · exact ⟨Nat.le_of_ble_eq_true rfl, Nat.le_of_ble_eq_true rfl⟩
  · exact ⟨by dsimp only [rmm, room_1]; omega, by dsimp only [rmm, room_1]; omega⟩
  rintro r I1 ⟨rfl, Q1, J1, rfl, R1, F1⟩
  have hs2 : ∀ S1, ovl S (ovc S1 J1) scr = some (.inl (0, aI n f)) := fun S1 => (ovl_k (k := 0) (by decide)).trans ((ovc_k (k := 0) rfl).trans ((F1 0 2 0 (by decide)).trans hs))
  rw [((hM.fj F1).ovc (S1 := _)).ov]
  refine V_aload_n X dL_law_666 rfl rfl ?_
  refine V_aload_n X dL_law_667 rfl rfl ?_
  refine V_iload_n X dL_law_668 rfl ?_
  refine V_iconst (v := 1) X dL_law_669 (by decide) ?_
  refine V_iadd X dL_law_670 ?_
  apply V_iaload X dL_law_671
  · exact hs2 _
  · exact sc_in (k := 1) hj hn (by decide)
  refine V_aload_n X dL_law_672 rfl rfl ?_
  refine V_iload_n X dL_law_673 rfl ?_
  refine V_iconst (v := 2) X dL_law_674 (by decide) ?_
  refine V_iadd X dL_law_675 ?_
  apply V_iaload X dL_law_676
  · exact hs2 _
  · exact sc_in (k := 2) hj hn (by decide)
  refine V_aload_n X dL_law_677 rfl rfl ?_
  refine V_iload_n X dL_law_678 rfl ?_
  refine V_iconst (v := 3) X dL_law_679 (by decide) ?_
  refine V_iadd X dL_law_680 ?_
  apply V_iaload X dL_law_681
  · exact hs2 _
  · exact sc_in (k := 3) hj hn (by decide)
  refine V_aload_n X dL_law_682 rfl rfl ?_
  refine V_iload_n X dL_law_683 rfl ?_
  refine V_iconst (v := 4) X dL_law_684 (by decide) ?_
  refine V_iadd X dL_law_685 ?_
  apply V_iaload X dL_law_686
  · exact hs2 _
  · exact sc_in (k := 4) hj hn (by decide)
  refine V_aload_n X dL_law_687 rfl rfl ?_
  refine V_iload_n X dL_law_688 rfl ?_
  refine V_iconst (v := 5) X dL_law_689 (by decide) ?_
  refine V_iadd X dL_law_690 ?_
  apply V_iaload X dL_law_691
  · exact hs2 _
  · exact sc_in (k := 5) hj hn (by decide)
  refine V_aload_n X dL_law_692 rfl rfl ?_
  refine V_iload_n X dL_law_693 rfl ?_
  refine V_bipush (v := 6) X dL_law_694 (by decide) ?_
  refine V_iadd X dL_law_696 ?_
  apply V_iaload X dL_law_697
  · exact hs2 _
  · exact sc_in (k := 6) hj hn (by decide)
  apply V_callV6 X dL_law_698 mk_L_74 iv_X9_modify (m_modify l ct0.2.2.1 ct0.2.2.2.1)
  · exact ovl_o
  · exact rfl
  · exact Nat.le_of_ble_eq_true rfl
  · exact ⟨Nat.le_of_ble_eq_true rfl, Nat.le_of_ble_eq_true rfl⟩
  · exact ⟨by dsimp only [rmm, room_1]; omega, by dsimp only [rmm, room_1]; omega⟩
  rintro r I1 ⟨rfl, rfl⟩
  refine V_icmp_eq X dL_law_701 1385 (by decide) (fun c_701 => ?_) (fun c_701 => ?_)
  · exact hk _ _ _ _ (LI.nx R1 F1 hs (up1 cIS.modify hj2) (Nat.le_of_eq (congrArg nn m48_modify.symm)) hcc hss (by dsimp only [rmm]; omega) (by dsimp only [rmm]; omega))
  · exact absurd rfl c_701
set_option maxRecDepth 100000 in
set_option maxHeartbeats 4000000 in
theorem lw_case_turn {l : Launch} {Z : Zt} {n : Nat} {f : Nat → Int32} {j : Nat} {S : St} {I : aH} {cells slots : Nat} (X : Fx Z l room_1 cL_law 4 RL (some .boolean) LQ) (hn : n ≤ 5120) (hj : 10 * j + 10 ≤ n) (L : LI n f j S I cells slots) (hk : ∀ S' I' cells' slots', LI n f (j + 1) S' I' cells' slots' → V Z 4 I' [some (.ref scr), some (.ref rO), some (.ref mO), some (.int (nI (10 * j)))] [] cells' slots' 1385) : V Z 4 I [some (.ref scr), some (.ref rO), some (.ref mO), some (.int (nI (10 * j)))] [] cells slots 706 := by
  obtain ⟨Q, J, rfl, R, hM, hs, IS, hcc, hss⟩ := L
  have hs1 : ovc S J scr = some (.inl (0, aI n f)) := (ovc_k (k := 0) rfl).trans hs
  have hub := IS.ub
  have hj2 : j + 1 ≤ 512 := by omega
  have cIS := IS
  obtain ⟨iv, ct0, kd0, ow, fz, mw, ma, bt, rt, mo, kp, lo0, g0⟩ := IS
  refine V_aload_n X dL_law_706 rfl rfl ?_
  refine V_aload_n X dL_law_707 rfl rfl ?_
  refine V_iload_n X dL_law_708 rfl ?_
  refine V_iconst (v := 1) X dL_law_709 (by decide) ?_
  refine V_iadd X dL_law_710 ?_
  apply V_iaload X dL_law_711
  · exact hs1
  · exact sc_in (k := 1) hj hn (by decide)
  refine V_aload_n X dL_law_712 rfl rfl ?_
  refine V_iload_n X dL_law_713 rfl ?_
  refine V_iconst (v := 2) X dL_law_714 (by decide) ?_
  refine V_iadd X dL_law_715 ?_
  apply V_iaload X dL_law_716
  · exact hs1
  · exact sc_in (k := 2) hj hn (by decide)
  refine V_aload_n X dL_law_717 rfl rfl ?_
  refine V_iload_n X dL_law_718 rfl ?_
  refine V_iconst (v := 3) X dL_law_719 (by decide) ?_
  refine V_iadd X dL_law_720 ?_
  apply V_iaload X dL_law_721
  · exact hs1
  · exact sc_in (k := 3) hj hn (by decide)
  refine V_if_eq X dL_law_722 729 (by decide) (fun c_722 => ?_) (fun c_722 => ?_)
  · refine V_iconst (v := 0) X dL_law_729 (by decide) ?_
    apply V_callV3 X dL_law_730 mk_L_75 iv_X8_turn (k_turn l ct0 R ow (Or.inl rfl))
    · exact at_root
    · exact rfl
    · exact Nat.le_of_ble_eq_true rfl
    · exact ⟨Nat.le_of_ble_eq_true rfl, Nat.le_of_ble_eq_true rfl⟩
    · exact ⟨by dsimp only [rmm, room_1]; omega, by dsimp only [rmm, room_1]; omega⟩
    rintro r I1 ⟨rfl, Q1, J1, rfl, R1, F1⟩
    have hs2 : ∀ S1, ovl S (ovc S1 J1) scr = some (.inl (0, aI n f)) := fun S1 => (ovl_k (k := 0) (by decide)).trans ((ovc_k (k := 0) rfl).trans ((F1 0 2 0 (by decide)).trans hs))
    rw [((hM.fj F1).ovc (S1 := _)).ov]
    refine V_aload_n X dL_law_733 rfl rfl ?_
    refine V_aload_n X dL_law_734 rfl rfl ?_
    refine V_iload_n X dL_law_735 rfl ?_
    refine V_iconst (v := 1) X dL_law_736 (by decide) ?_
    refine V_iadd X dL_law_737 ?_
    apply V_iaload X dL_law_738
    · exact hs2 _
    · exact sc_in (k := 1) hj hn (by decide)
    refine V_aload_n X dL_law_739 rfl rfl ?_
    refine V_iload_n X dL_law_740 rfl ?_
    refine V_iconst (v := 2) X dL_law_741 (by decide) ?_
    refine V_iadd X dL_law_742 ?_
    apply V_iaload X dL_law_743
    · exact hs2 _
    · exact sc_in (k := 2) hj hn (by decide)
    refine V_aload_n X dL_law_744 rfl rfl ?_
    refine V_iload_n X dL_law_745 rfl ?_
    refine V_iconst (v := 3) X dL_law_746 (by decide) ?_
    refine V_iadd X dL_law_747 ?_
    apply V_iaload X dL_law_748
    · exact hs2 _
    · exact sc_in (k := 3) hj hn (by decide)
    refine V_if_eq X dL_law_749 756 (by decide) (fun c_749 => ?_) (fun c_749 => ?_)
    · refine V_iconst (v := 0) X dL_law_756 (by decide) ?_
      apply V_callV3 X dL_law_757 mk_L_79 iv_X9_turn (m_turn l ct0.2.2.1 ct0.2.2.2.1 (by decide))
      · exact ovl_o
      · exact rfl
      · exact Nat.le_of_ble_eq_true rfl
      · exact ⟨Nat.le_of_ble_eq_true rfl, Nat.le_of_ble_eq_true rfl⟩
      · exact ⟨by dsimp only [rmm, room_1]; omega, by dsimp only [rmm, room_1]; omega⟩
      rintro r I1 ⟨rfl, rfl⟩
      refine V_icmp_eq X dL_law_760 1385 (by decide) (fun c_760 => ?_) (fun c_760 => ?_)
      · exact hk _ _ _ _ (LI.nx R1 F1 hs (up1 cIS.turn hj2) (Nat.le_of_eq (congrArg nn m48_turn.symm)) hcc hss (by dsimp only [rmm]; omega) (by dsimp only [rmm]; omega))
      · exact absurd rfl c_760
    · exact absurd c_722 c_749
  refine V_iconst (v := 1) X dL_law_725 (by decide) ?_
  refine V_goto X dL_law_726 730 (by decide) ?_
  apply V_callV3 X dL_law_730 mk_L_75 iv_X8_turn (k_turn l ct0 R ow (Or.inr rfl))
  · exact at_root
  · exact rfl
  · exact Nat.le_of_ble_eq_true rfl
  · exact ⟨Nat.le_of_ble_eq_true rfl, Nat.le_of_ble_eq_true rfl⟩
  · exact ⟨by dsimp only [rmm, room_1]; omega, by dsimp only [rmm, room_1]; omega⟩
  rintro r I1 ⟨rfl, Q1, J1, rfl, R1, F1⟩
  have hs2 : ∀ S1, ovl S (ovc S1 J1) scr = some (.inl (0, aI n f)) := fun S1 => (ovl_k (k := 0) (by decide)).trans ((ovc_k (k := 0) rfl).trans ((F1 0 2 0 (by decide)).trans hs))
  rw [((hM.fj F1).ovc (S1 := _)).ov]
  refine V_aload_n X dL_law_733 rfl rfl ?_
  refine V_aload_n X dL_law_734 rfl rfl ?_
  refine V_iload_n X dL_law_735 rfl ?_
  refine V_iconst (v := 1) X dL_law_736 (by decide) ?_
  refine V_iadd X dL_law_737 ?_
  apply V_iaload X dL_law_738
  · exact hs2 _
  · exact sc_in (k := 1) hj hn (by decide)
  refine V_aload_n X dL_law_739 rfl rfl ?_
  refine V_iload_n X dL_law_740 rfl ?_
  refine V_iconst (v := 2) X dL_law_741 (by decide) ?_
  refine V_iadd X dL_law_742 ?_
  apply V_iaload X dL_law_743
  · exact hs2 _
  · exact sc_in (k := 2) hj hn (by decide)
  refine V_aload_n X dL_law_744 rfl rfl ?_
  refine V_iload_n X dL_law_745 rfl ?_
  refine V_iconst (v := 3) X dL_law_746 (by decide) ?_
  refine V_iadd X dL_law_747 ?_
  apply V_iaload X dL_law_748
  · exact hs2 _
  · exact sc_in (k := 3) hj hn (by decide)
  refine V_if_eq X dL_law_749 756 (by decide) (fun c_749 => ?_) (fun c_749 => ?_)
  · exact absurd c_749 c_722
  refine V_iconst (v := 1) X dL_law_752 (by decide) ?_
  refine V_goto X dL_law_753 757 (by decide) ?_
  apply V_callV3 X dL_law_757 mk_L_79 iv_X9_turn (m_turn l ct0.2.2.1 ct0.2.2.2.1 (by decide))
  · exact ovl_o
  · exact rfl
  · exact Nat.le_of_ble_eq_true rfl
  · exact ⟨Nat.le_of_ble_eq_true rfl, Nat.le_of_ble_eq_true rfl⟩
  · exact ⟨by dsimp only [rmm, room_1]; omega, by dsimp only [rmm, room_1]; omega⟩
  rintro r I1 ⟨rfl, rfl⟩
  refine V_icmp_eq X dL_law_760 1385 (by decide) (fun c_760 => ?_) (fun c_760 => ?_)
  · exact hk _ _ _ _ (LI.nx R1 F1 hs (up1 cIS.turn hj2) (Nat.le_of_eq (congrArg nn m48_turn.symm)) hcc hss (by dsimp only [rmm]; omega) (by dsimp only [rmm]; omega))
  · exact absurd rfl c_760
set_option maxRecDepth 100000 in
set_option maxHeartbeats 4000000 in
theorem lw_case_transfer {l : Launch} {Z : Zt} {n : Nat} {f : Nat → Int32} {j : Nat} {S : St} {I : aH} {cells slots : Nat} (X : Fx Z l room_1 cL_law 4 RL (some .boolean) LQ) (hn : n ≤ 5120) (hj : 10 * j + 10 ≤ n) (L : LI n f j S I cells slots) (hk : ∀ S' I' cells' slots', LI n f (j + 1) S' I' cells' slots' → V Z 4 I' [some (.ref scr), some (.ref rO), some (.ref mO), some (.int (nI (10 * j)))] [] cells' slots' 1385) : V Z 4 I [some (.ref scr), some (.ref rO), some (.ref mO), some (.int (nI (10 * j)))] [] cells slots 765 := by
  obtain ⟨Q, J, rfl, R, hM, hs, IS, hcc, hss⟩ := L
  have hs1 : ovc S J scr = some (.inl (0, aI n f)) := (ovc_k (k := 0) rfl).trans hs
  have hub := IS.ub
  have hj2 : j + 1 ≤ 512 := by omega
  have cIS := IS
  obtain ⟨iv, ct0, kd0, ow, fz, mw, ma, bt, rt, mo, kp, lo0, g0⟩ := IS
  refine V_aload_n X dL_law_765 rfl rfl ?_
  refine V_aload_n X dL_law_766 rfl rfl ?_
  refine V_iload_n X dL_law_767 rfl ?_
  refine V_iconst (v := 1) X dL_law_768 (by decide) ?_
  refine V_iadd X dL_law_769 ?_
  apply V_iaload X dL_law_770
  · exact hs1
  · exact sc_in (k := 1) hj hn (by decide)
  refine V_aload_n X dL_law_771 rfl rfl ?_
  refine V_iload_n X dL_law_772 rfl ?_
  refine V_iconst (v := 2) X dL_law_773 (by decide) ?_
  refine V_iadd X dL_law_774 ?_
  apply V_iaload X dL_law_775
  · exact hs1
  · exact sc_in (k := 2) hj hn (by decide)
  apply V_callV2 X dL_law_776 mk_L_80 iv_X8_transfer (k_transfer l ct0 R ow)
  · exact at_root
  · exact rfl
  · exact Nat.le_of_ble_eq_true rfl
  · exact ⟨Nat.le_of_ble_eq_true rfl, Nat.le_of_ble_eq_true rfl⟩
  · exact ⟨by dsimp only [rmm, room_1]; omega, by dsimp only [rmm, room_1]; omega⟩
  rintro r I1 ⟨rfl, Q1, J1, rfl, R1, F1⟩
  have hs2 : ∀ S1, ovl S (ovc S1 J1) scr = some (.inl (0, aI n f)) := fun S1 => (ovl_k (k := 0) (by decide)).trans ((ovc_k (k := 0) rfl).trans ((F1 0 2 0 (by decide)).trans hs))
  rw [((hM.fj F1).ovc (S1 := _)).ov]
  refine V_aload_n X dL_law_779 rfl rfl ?_
  refine V_aload_n X dL_law_780 rfl rfl ?_
  refine V_iload_n X dL_law_781 rfl ?_
  refine V_iconst (v := 1) X dL_law_782 (by decide) ?_
  refine V_iadd X dL_law_783 ?_
  apply V_iaload X dL_law_784
  · exact hs2 _
  · exact sc_in (k := 1) hj hn (by decide)
  refine V_aload_n X dL_law_785 rfl rfl ?_
  refine V_iload_n X dL_law_786 rfl ?_
  refine V_iconst (v := 2) X dL_law_787 (by decide) ?_
  refine V_iadd X dL_law_788 ?_
  apply V_iaload X dL_law_789
  · exact hs2 _
  · exact sc_in (k := 2) hj hn (by decide)
  apply V_callV2 X dL_law_790 mk_L_83 iv_X9_transfer (m_transfer l ct0.2.2.1 ct0.2.2.2.1)
  · exact ovl_o
  · exact rfl
  · exact Nat.le_of_ble_eq_true rfl
  · exact ⟨Nat.le_of_ble_eq_true rfl, Nat.le_of_ble_eq_true rfl⟩
  · exact ⟨by dsimp only [rmm, room_1]; omega, by dsimp only [rmm, room_1]; omega⟩
  rintro r I1 ⟨rfl, rfl⟩
  refine V_icmp_eq X dL_law_793 1385 (by decide) (fun c_793 => ?_) (fun c_793 => ?_)
  · exact hk _ _ _ _ (LI.nx R1 F1 hs (up1 cIS.transfer hj2) (Nat.le_of_eq (congrArg nn m48_transfer.symm)) hcc hss (by dsimp only [rmm]; omega) (by dsimp only [rmm]; omega))
  · exact absurd rfl c_793
set_option maxRecDepth 100000 in
set_option maxHeartbeats 4000000 in
theorem lw_case_unsub {l : Launch} {Z : Zt} {n : Nat} {f : Nat → Int32} {j : Nat} {S : St} {I : aH} {cells slots : Nat} (X : Fx Z l room_1 cL_law 4 RL (some .boolean) LQ) (hn : n ≤ 5120) (hj : 10 * j + 10 ≤ n) (L : LI n f j S I cells slots) (hk : ∀ S' I' cells' slots', LI n f (j + 1) S' I' cells' slots' → V Z 4 I' [some (.ref scr), some (.ref rO), some (.ref mO), some (.int (nI (10 * j)))] [] cells' slots' 1385) : V Z 4 I [some (.ref scr), some (.ref rO), some (.ref mO), some (.int (nI (10 * j)))] [] cells slots 798 := by
  obtain ⟨Q, J, rfl, R, hM, hs, IS, hcc, hss⟩ := L
  have hs1 : ovc S J scr = some (.inl (0, aI n f)) := (ovc_k (k := 0) rfl).trans hs
  have hub := IS.ub
  have hj2 : j + 1 ≤ 512 := by omega
  have cIS := IS
  obtain ⟨iv, ct0, kd0, ow, fz, mw, ma, bt, rt, mo, kp, lo0, g0⟩ := IS
  refine V_aload_n X dL_law_798 rfl rfl ?_
  refine V_aload_n X dL_law_799 rfl rfl ?_
  refine V_iload_n X dL_law_800 rfl ?_
  refine V_iconst (v := 1) X dL_law_801 (by decide) ?_
  refine V_iadd X dL_law_802 ?_
  apply V_iaload X dL_law_803
  · exact hs1
  · exact sc_in (k := 1) hj hn (by decide)
  refine V_aload_n X dL_law_804 rfl rfl ?_
  refine V_iload_n X dL_law_805 rfl ?_
  refine V_iconst (v := 2) X dL_law_806 (by decide) ?_
  refine V_iadd X dL_law_807 ?_
  apply V_iaload X dL_law_808
  · exact hs1
  · exact sc_in (k := 2) hj hn (by decide)
  apply V_callV2 X dL_law_809 mk_L_84 iv_X8_unsubscribe (k_unsub l ct0 R ow)
  · exact at_root
  · exact rfl
  · exact Nat.le_of_ble_eq_true rfl
  · exact ⟨Nat.le_of_ble_eq_true rfl, Nat.le_of_ble_eq_true rfl⟩
  · exact ⟨by dsimp only [rmm, room_1]; omega, by dsimp only [rmm, room_1]; omega⟩
  rintro r I1 ⟨rfl, Q1, J1, rfl, R1, F1⟩
  have hs2 : ∀ S1, ovl S (ovc S1 J1) scr = some (.inl (0, aI n f)) := fun S1 => (ovl_k (k := 0) (by decide)).trans ((ovc_k (k := 0) rfl).trans ((F1 0 2 0 (by decide)).trans hs))
  rw [((hM.fj F1).ovc (S1 := _)).ov]
  refine V_aload_n X dL_law_812 rfl rfl ?_
  refine V_aload_n X dL_law_813 rfl rfl ?_
  refine V_iload_n X dL_law_814 rfl ?_
  refine V_iconst (v := 1) X dL_law_815 (by decide) ?_
  refine V_iadd X dL_law_816 ?_
  apply V_iaload X dL_law_817
  · exact hs2 _
  · exact sc_in (k := 1) hj hn (by decide)
  refine V_aload_n X dL_law_818 rfl rfl ?_
  refine V_iload_n X dL_law_819 rfl ?_
  refine V_iconst (v := 2) X dL_law_820 (by decide) ?_
  refine V_iadd X dL_law_821 ?_
  apply V_iaload X dL_law_822
  · exact hs2 _
  · exact sc_in (k := 2) hj hn (by decide)
  apply V_callV2 X dL_law_823 mk_L_87 iv_X9_unsubscribe (m_unsub l ct0.2.2.1 ct0.2.2.2.1 ct0.2.2.2.2.1 (ct_up ct0.2.2.2.2.2 (by decide)))
  · exact ovl_o
  · exact rfl
  · exact Nat.le_of_ble_eq_true rfl
  · exact ⟨Nat.le_of_ble_eq_true rfl, Nat.le_of_ble_eq_true rfl⟩
  · exact ⟨by dsimp only [rmm, room_1]; omega, by dsimp only [rmm, room_1]; omega⟩
  rintro r I1 ⟨rfl, rfl⟩
  refine V_icmp_eq X dL_law_826 1385 (by decide) (fun c_826 => ?_) (fun c_826 => ?_)
  · exact hk _ _ _ _ (LI.nx R1 F1 hs (up1 cIS.unsub hj2) (Nat.le_of_eq (congrArg nn m48_unsub.symm)) hcc hss (by dsimp only [rmm]; omega) (by dsimp only [rmm]; omega))
  · exact absurd rfl c_826
set_option maxRecDepth 100000 in
set_option maxHeartbeats 4000000 in
theorem lw_case_item {l : Launch} {Z : Zt} {n : Nat} {f : Nat → Int32} {j : Nat} {S : St} {I : aH} {cells slots : Nat} (X : Fx Z l room_1 cL_law 4 RL (some .boolean) LQ) (hn : n ≤ 5120) (hj : 10 * j + 10 ≤ n) (L : LI n f j S I cells slots) (hk : ∀ S' I' cells' slots', LI n f (j + 1) S' I' cells' slots' → V Z 4 I' [some (.ref scr), some (.ref rO), some (.ref mO), some (.int (nI (10 * j)))] [] cells' slots' 1385) : V Z 4 I [some (.ref scr), some (.ref rO), some (.ref mO), some (.int (nI (10 * j)))] [] cells slots 831 := by
  obtain ⟨Q, J, rfl, R, hM, hs, IS, hcc, hss⟩ := L
  have hs1 : ovc S J scr = some (.inl (0, aI n f)) := (ovc_k (k := 0) rfl).trans hs
  have hub := IS.ub
  have hj2 : j + 1 ≤ 512 := by omega
  have cIS := IS
  obtain ⟨iv, ct0, kd0, ow, fz, mw, ma, bt, rt, mo, kp, lo0, g0⟩ := IS
  have h60 := (ct_nn ct0.2.2.2.2.1 (by decide)).1
  have hqk : ∀ i, i < nn (S.1 32 0) → QK S i := fun i hi => ⟨(iv.2.1 i (by omega)).1, (iv.2.1 i (by omega)).2.1, (iv.2.1 i (by omega)).2.2.1, (iv.2.2.2.2.2.2 i hi).2.2⟩
  refine V_aload_n X dL_law_831 rfl rfl ?_
  refine V_aload_n X dL_law_832 rfl rfl ?_
  refine V_iload_n X dL_law_833 rfl ?_
  refine V_iconst (v := 1) X dL_law_834 (by decide) ?_
  refine V_iadd X dL_law_835 ?_
  apply V_iaload X dL_law_836
  · exact hs1
  · exact sc_in (k := 1) hj hn (by decide)
  refine V_aload_n X dL_law_837 rfl rfl ?_
  refine V_iload_n X dL_law_838 rfl ?_
  refine V_iconst (v := 2) X dL_law_839 (by decide) ?_
  refine V_iadd X dL_law_840 ?_
  apply V_iaload X dL_law_841
  · exact hs1
  · exact sc_in (k := 2) hj hn (by decide)
  refine V_aload_n X dL_law_842 rfl rfl ?_
  refine V_iload_n X dL_law_843 rfl ?_
  refine V_iconst (v := 3) X dL_law_844 (by decide) ?_
  refine V_iadd X dL_law_845 ?_
  apply V_iaload X dL_law_846
  · exact hs1
  · exact sc_in (k := 3) hj hn (by decide)
  refine V_aload_n X dL_law_847 rfl rfl ?_
  refine V_iload_n X dL_law_848 rfl ?_
  refine V_iconst (v := 4) X dL_law_849 (by decide) ?_
  refine V_iadd X dL_law_850 ?_
  apply V_iaload X dL_law_851
  · exact hs1
  · exact sc_in (k := 4) hj hn (by decide)
  refine V_aload_n X dL_law_852 rfl rfl ?_
  refine V_iload_n X dL_law_853 rfl ?_
  refine V_iconst (v := 5) X dL_law_854 (by decide) ?_
  refine V_iadd X dL_law_855 ?_
  apply V_iaload X dL_law_856
  · exact hs1
  · exact sc_in (k := 5) hj hn (by decide)
  refine V_aload_n X dL_law_857 rfl rfl ?_
  refine V_iload_n X dL_law_858 rfl ?_
  refine V_bipush (v := 6) X dL_law_859 (by decide) ?_
  refine V_iadd X dL_law_861 ?_
  apply V_iaload X dL_law_862
  · exact hs1
  · exact sc_in (k := 6) hj hn (by decide)
  refine V_if_eq X dL_law_863 870 (by decide) (fun c_863 => ?_) (fun c_863 => ?_)
  · refine V_iconst (v := 0) X dL_law_870 (by decide) ?_
    refine V_aload_n X dL_law_871 rfl rfl ?_
    refine V_iload_n X dL_law_872 rfl ?_
    refine V_bipush (v := 7) X dL_law_873 (by decide) ?_
    refine V_iadd X dL_law_875 ?_
    apply V_iaload X dL_law_876
    · exact hs1
    · exact sc_in (k := 7) hj hn (by decide)
    refine V_aload_n X dL_law_877 rfl rfl ?_
    refine V_iload_n X dL_law_878 rfl ?_
    refine V_bipush (v := 8) X dL_law_879 (by decide) ?_
    refine V_iadd X dL_law_881 ?_
    apply V_iaload X dL_law_882
    · exact hs1
    · exact sc_in (k := 8) hj hn (by decide)
    refine V_i2l X dL_law_883 ?_
    refine V_bipush (v := 32) X dL_law_884 (by decide) ?_
    refine V_lshl X dL_law_886 ?_
    refine V_aload_n X dL_law_887 rfl rfl ?_
    refine V_iload_n X dL_law_888 rfl ?_
    refine V_bipush (v := 9) X dL_law_889 (by decide) ?_
    refine V_iadd X dL_law_891 ?_
    apply V_iaload X dL_law_892
    · exact hs1
    · exact sc_in (k := 9) hj hn (by decide)
    refine V_i2l X dL_law_893 ?_
    refine V_ldc2 X dL_law_894 kc_L_23 ?_
    refine V_land X dL_law_897 ?_
    refine V_lor X dL_law_898 ?_
    apply V_callV8 X dL_law_899 mk_L_88 iv_X8_item (k_item l ct0 R kd0 fz ow (Or.inl rfl) hqk)
    · exact at_root
    · exact rfl
    · exact Nat.le_of_ble_eq_true rfl
    · exact ⟨Nat.le_of_ble_eq_true rfl, Nat.le_of_ble_eq_true rfl⟩
    · exact ⟨by dsimp only [rmm, room_1]; omega, by dsimp only [rmm, room_1]; omega⟩
    rintro r I1 ⟨rfl, Q1, J1, rfl, R1, F1⟩
    have hs2 : ∀ S1, ovl S (ovc S1 J1) scr = some (.inl (0, aI n f)) := fun S1 => (ovl_k (k := 0) (by decide)).trans ((ovc_k (k := 0) rfl).trans ((F1 0 2 0 (by decide)).trans hs))
    rw [((hM.fj F1).ovc (S1 := _)).ov]
    refine V_aload_n X dL_law_902 rfl rfl ?_
    refine V_aload_n X dL_law_903 rfl rfl ?_
    refine V_iload_n X dL_law_904 rfl ?_
    refine V_iconst (v := 1) X dL_law_905 (by decide) ?_
    refine V_iadd X dL_law_906 ?_
    apply V_iaload X dL_law_907
    · exact hs2 _
    · exact sc_in (k := 1) hj hn (by decide)
    refine V_aload_n X dL_law_908 rfl rfl ?_
    refine V_iload_n X dL_law_909 rfl ?_
    refine V_iconst (v := 2) X dL_law_910 (by decide) ?_
    refine V_iadd X dL_law_911 ?_
    apply V_iaload X dL_law_912
    · exact hs2 _
    · exact sc_in (k := 2) hj hn (by decide)
    refine V_aload_n X dL_law_913 rfl rfl ?_
    refine V_iload_n X dL_law_914 rfl ?_
    refine V_iconst (v := 3) X dL_law_915 (by decide) ?_
    refine V_iadd X dL_law_916 ?_
    apply V_iaload X dL_law_917
    · exact hs2 _
    · exact sc_in (k := 3) hj hn (by decide)
    refine V_aload_n X dL_law_918 rfl rfl ?_
    refine V_iload_n X dL_law_919 rfl ?_
    refine V_iconst (v := 4) X dL_law_920 (by decide) ?_
    refine V_iadd X dL_law_921 ?_
    apply V_iaload X dL_law_922
    · exact hs2 _
    · exact sc_in (k := 4) hj hn (by decide)
    refine V_aload_n X dL_law_923 rfl rfl ?_
    refine V_iload_n X dL_law_924 rfl ?_
    refine V_iconst (v := 5) X dL_law_925 (by decide) ?_
    refine V_iadd X dL_law_926 ?_
    apply V_iaload X dL_law_927
    · exact hs2 _
    · exact sc_in (k := 5) hj hn (by decide)
    refine V_aload_n X dL_law_928 rfl rfl ?_
    refine V_iload_n X dL_law_929 rfl ?_
    refine V_bipush (v := 6) X dL_law_930 (by decide) ?_
    refine V_iadd X dL_law_932 ?_
    apply V_iaload X dL_law_933
    · exact hs2 _
    · exact sc_in (k := 6) hj hn (by decide)
    refine V_if_eq X dL_law_934 941 (by decide) (fun c_934 => ?_) (fun c_934 => ?_)
    · refine V_iconst (v := 0) X dL_law_941 (by decide) ?_
      refine V_aload_n X dL_law_942 rfl rfl ?_
      refine V_iload_n X dL_law_943 rfl ?_
      refine V_bipush (v := 7) X dL_law_944 (by decide) ?_
      refine V_iadd X dL_law_946 ?_
      apply V_iaload X dL_law_947
      · exact hs2 _
      · exact sc_in (k := 7) hj hn (by decide)
      refine V_aload_n X dL_law_948 rfl rfl ?_
      refine V_iload_n X dL_law_949 rfl ?_
      refine V_bipush (v := 8) X dL_law_950 (by decide) ?_
      refine V_iadd X dL_law_952 ?_
      apply V_iaload X dL_law_953
      · exact hs2 _
      · exact sc_in (k := 8) hj hn (by decide)
      refine V_i2l X dL_law_954 ?_
      refine V_bipush (v := 32) X dL_law_955 (by decide) ?_
      refine V_lshl X dL_law_957 ?_
      refine V_aload_n X dL_law_958 rfl rfl ?_
      refine V_iload_n X dL_law_959 rfl ?_
      refine V_bipush (v := 9) X dL_law_960 (by decide) ?_
      refine V_iadd X dL_law_962 ?_
      apply V_iaload X dL_law_963
      · exact hs2 _
      · exact sc_in (k := 9) hj hn (by decide)
      refine V_i2l X dL_law_964 ?_
      refine V_ldc2 X dL_law_965 kc_L_23 ?_
      refine V_land X dL_law_968 ?_
      refine V_lor X dL_law_969 ?_
      apply V_callV8 X dL_law_970 mk_L_92 iv_X9_item (m_item l iv ct0.1 (by decide) (fz.2.2.2.1 _ (Nat.le_refl _)).2.2.1)
      · exact ovl_o
      · exact rfl
      · exact Nat.le_of_ble_eq_true rfl
      · exact ⟨Nat.le_of_ble_eq_true rfl, Nat.le_of_ble_eq_true rfl⟩
      · exact ⟨by dsimp only [rmm, room_1]; omega, by dsimp only [rmm, room_1]; omega⟩
      rintro r I1 ⟨rfl, rfl⟩
      refine V_icmp_eq X dL_law_973 1385 (by decide) (fun c_973 => ?_) (fun c_973 => ?_)
      · exact hk _ _ _ _ (LI.nx R1 F1 hs (up1 cIS.item hj2) (Nat.le_of_eq (congrArg nn m48_item.symm)) hcc hss (by dsimp only [rmm]; omega) (by dsimp only [rmm]; omega))
      · exact absurd rfl c_973
    · exact absurd c_863 c_934
  refine V_iconst (v := 1) X dL_law_866 (by decide) ?_
  refine V_goto X dL_law_867 871 (by decide) ?_
  refine V_aload_n X dL_law_871 rfl rfl ?_
  refine V_iload_n X dL_law_872 rfl ?_
  refine V_bipush (v := 7) X dL_law_873 (by decide) ?_
  refine V_iadd X dL_law_875 ?_
  apply V_iaload X dL_law_876
  · exact hs1
  · exact sc_in (k := 7) hj hn (by decide)
  refine V_aload_n X dL_law_877 rfl rfl ?_
  refine V_iload_n X dL_law_878 rfl ?_
  refine V_bipush (v := 8) X dL_law_879 (by decide) ?_
  refine V_iadd X dL_law_881 ?_
  apply V_iaload X dL_law_882
  · exact hs1
  · exact sc_in (k := 8) hj hn (by decide)
  refine V_i2l X dL_law_883 ?_
  refine V_bipush (v := 32) X dL_law_884 (by decide) ?_
  refine V_lshl X dL_law_886 ?_
  refine V_aload_n X dL_law_887 rfl rfl ?_
  refine V_iload_n X dL_law_888 rfl ?_
  refine V_bipush (v := 9) X dL_law_889 (by decide) ?_
  refine V_iadd X dL_law_891 ?_
  apply V_iaload X dL_law_892
  · exact hs1
  · exact sc_in (k := 9) hj hn (by decide)
  refine V_i2l X dL_law_893 ?_
  refine V_ldc2 X dL_law_894 kc_L_23 ?_
  refine V_land X dL_law_897 ?_
  refine V_lor X dL_law_898 ?_
  apply V_callV8 X dL_law_899 mk_L_88 iv_X8_item (k_item l ct0 R kd0 fz ow (Or.inr rfl) hqk)
  · exact at_root
  · exact rfl
  · exact Nat.le_of_ble_eq_true rfl
  · exact ⟨Nat.le_of_ble_eq_true rfl, Nat.le_of_ble_eq_true rfl⟩
  · exact ⟨by dsimp only [rmm, room_1]; omega, by dsimp only [rmm, room_1]; omega⟩
  rintro r I1 ⟨rfl, Q1, J1, rfl, R1, F1⟩
  have hs2 : ∀ S1, ovl S (ovc S1 J1) scr = some (.inl (0, aI n f)) := fun S1 => (ovl_k (k := 0) (by decide)).trans ((ovc_k (k := 0) rfl).trans ((F1 0 2 0 (by decide)).trans hs))
  rw [((hM.fj F1).ovc (S1 := _)).ov]
  refine V_aload_n X dL_law_902 rfl rfl ?_
  refine V_aload_n X dL_law_903 rfl rfl ?_
  refine V_iload_n X dL_law_904 rfl ?_
  refine V_iconst (v := 1) X dL_law_905 (by decide) ?_
  refine V_iadd X dL_law_906 ?_
  apply V_iaload X dL_law_907
  · exact hs2 _
  · exact sc_in (k := 1) hj hn (by decide)
  refine V_aload_n X dL_law_908 rfl rfl ?_
  refine V_iload_n X dL_law_909 rfl ?_
  refine V_iconst (v := 2) X dL_law_910 (by decide) ?_
  refine V_iadd X dL_law_911 ?_
  apply V_iaload X dL_law_912
  · exact hs2 _
  · exact sc_in (k := 2) hj hn (by decide)
  refine V_aload_n X dL_law_913 rfl rfl ?_
  refine V_iload_n X dL_law_914 rfl ?_
  refine V_iconst (v := 3) X dL_law_915 (by decide) ?_
  refine V_iadd X dL_law_916 ?_
  apply V_iaload X dL_law_917
  · exact hs2 _
  · exact sc_in (k := 3) hj hn (by decide)
  refine V_aload_n X dL_law_918 rfl rfl ?_
  refine V_iload_n X dL_law_919 rfl ?_
  refine V_iconst (v := 4) X dL_law_920 (by decide) ?_
  refine V_iadd X dL_law_921 ?_
  apply V_iaload X dL_law_922
  · exact hs2 _
  · exact sc_in (k := 4) hj hn (by decide)
  refine V_aload_n X dL_law_923 rfl rfl ?_
  refine V_iload_n X dL_law_924 rfl ?_
  refine V_iconst (v := 5) X dL_law_925 (by decide) ?_
  refine V_iadd X dL_law_926 ?_
  apply V_iaload X dL_law_927
  · exact hs2 _
  · exact sc_in (k := 5) hj hn (by decide)
  refine V_aload_n X dL_law_928 rfl rfl ?_
  refine V_iload_n X dL_law_929 rfl ?_
  refine V_bipush (v := 6) X dL_law_930 (by decide) ?_
  refine V_iadd X dL_law_932 ?_
  apply V_iaload X dL_law_933
  · exact hs2 _
  · exact sc_in (k := 6) hj hn (by decide)
  refine V_if_eq X dL_law_934 941 (by decide) (fun c_934 => ?_) (fun c_934 => ?_)
  · exact absurd c_934 c_863
  refine V_iconst (v := 1) X dL_law_937 (by decide) ?_
  refine V_goto X dL_law_938 942 (by decide) ?_
  refine V_aload_n X dL_law_942 rfl rfl ?_
  refine V_iload_n X dL_law_943 rfl ?_
  refine V_bipush (v := 7) X dL_law_944 (by decide) ?_
  refine V_iadd X dL_law_946 ?_
  apply V_iaload X dL_law_947
  · exact hs2 _
  · exact sc_in (k := 7) hj hn (by decide)
  refine V_aload_n X dL_law_948 rfl rfl ?_
  refine V_iload_n X dL_law_949 rfl ?_
  refine V_bipush (v := 8) X dL_law_950 (by decide) ?_
  refine V_iadd X dL_law_952 ?_
  apply V_iaload X dL_law_953
  · exact hs2 _
  · exact sc_in (k := 8) hj hn (by decide)
  refine V_i2l X dL_law_954 ?_
  refine V_bipush (v := 32) X dL_law_955 (by decide) ?_
  refine V_lshl X dL_law_957 ?_
  refine V_aload_n X dL_law_958 rfl rfl ?_
  refine V_iload_n X dL_law_959 rfl ?_
  refine V_bipush (v := 9) X dL_law_960 (by decide) ?_
  refine V_iadd X dL_law_962 ?_
  apply V_iaload X dL_law_963
  · exact hs2 _
  · exact sc_in (k := 9) hj hn (by decide)
  refine V_i2l X dL_law_964 ?_
  refine V_ldc2 X dL_law_965 kc_L_23 ?_
  refine V_land X dL_law_968 ?_
  refine V_lor X dL_law_969 ?_
  apply V_callV8 X dL_law_970 mk_L_92 iv_X9_item (m_item l iv ct0.1 (by decide) (fz.2.2.2.1 _ (Nat.le_refl _)).2.2.1)
  · exact ovl_o
  · exact rfl
  · exact Nat.le_of_ble_eq_true rfl
  · exact ⟨Nat.le_of_ble_eq_true rfl, Nat.le_of_ble_eq_true rfl⟩
  · exact ⟨by dsimp only [rmm, room_1]; omega, by dsimp only [rmm, room_1]; omega⟩
  rintro r I1 ⟨rfl, rfl⟩
  refine V_icmp_eq X dL_law_973 1385 (by decide) (fun c_973 => ?_) (fun c_973 => ?_)
  · exact hk _ _ _ _ (LI.nx R1 F1 hs (up1 cIS.item hj2) (Nat.le_of_eq (congrArg nn m48_item.symm)) hcc hss (by dsimp only [rmm]; omega) (by dsimp only [rmm]; omega))
  · exact absurd rfl c_973
set_option maxRecDepth 100000 in
set_option maxHeartbeats 4000000 in
theorem lw_case_mode {l : Launch} {Z : Zt} {n : Nat} {f : Nat → Int32} {j : Nat} {S : St} {I : aH} {cells slots : Nat} (X : Fx Z l room_1 cL_law 4 RL (some .boolean) LQ) (hn : n ≤ 5120) (hj : 10 * j + 10 ≤ n) (L : LI n f j S I cells slots) (hk : ∀ S' I' cells' slots', LI n f (j + 1) S' I' cells' slots' → V Z 4 I' [some (.ref scr), some (.ref rO), some (.ref mO), some (.int (nI (10 * j)))] [] cells' slots' 1385) : V Z 4 I [some (.ref scr), some (.ref rO), some (.ref mO), some (.int (nI (10 * j)))] [] cells slots 978 := by
  obtain ⟨Q, J, rfl, R, hM, hs, IS, hcc, hss⟩ := L
  have hs1 : ovc S J scr = some (.inl (0, aI n f)) := (ovc_k (k := 0) rfl).trans hs
  have hub := IS.ub
  have hj2 : j + 1 ≤ 512 := by omega
  have cIS := IS
  obtain ⟨iv, ct0, kd0, ow, fz, mw, ma, bt, rt, mo, kp, lo0, g0⟩ := IS
  have h60 := (ct_nn ct0.2.2.2.2.1 (by decide)).1
  have hqk : ∀ i, i < nn (S.1 32 0) → QK S i := fun i hi => ⟨(iv.2.1 i (by omega)).1, (iv.2.1 i (by omega)).2.1, (iv.2.1 i (by omega)).2.2.1, (iv.2.2.2.2.2.2 i hi).2.2⟩
  refine V_aload_n X dL_law_978 rfl rfl ?_
  refine V_aload_n X dL_law_979 rfl rfl ?_
  refine V_iload_n X dL_law_980 rfl ?_
  refine V_iconst (v := 1) X dL_law_981 (by decide) ?_
  refine V_iadd X dL_law_982 ?_
  apply V_iaload X dL_law_983
  · exact hs1
  · exact sc_in (k := 1) hj hn (by decide)
  refine V_aload_n X dL_law_984 rfl rfl ?_
  refine V_iload_n X dL_law_985 rfl ?_
  refine V_iconst (v := 2) X dL_law_986 (by decide) ?_
  refine V_iadd X dL_law_987 ?_
  apply V_iaload X dL_law_988
  · exact hs1
  · exact sc_in (k := 2) hj hn (by decide)
  refine V_aload_n X dL_law_989 rfl rfl ?_
  refine V_iload_n X dL_law_990 rfl ?_
  refine V_iconst (v := 3) X dL_law_991 (by decide) ?_
  refine V_iadd X dL_law_992 ?_
  apply V_iaload X dL_law_993
  · exact hs1
  · exact sc_in (k := 3) hj hn (by decide)
  apply V_callV3 X dL_law_994 mk_L_93 iv_X8_mode (k_mode l ct0 R ow mo hqk)
  · exact at_root
  · exact rfl
  · exact Nat.le_of_ble_eq_true rfl
  · exact ⟨Nat.le_of_ble_eq_true rfl, Nat.le_of_ble_eq_true rfl⟩
  · exact ⟨by dsimp only [rmm, room_1]; omega, by dsimp only [rmm, room_1]; omega⟩
  rintro r I1 ⟨rfl, Q1, J1, rfl, R1, F1⟩
  have hs2 : ∀ S1, ovl S (ovc S1 J1) scr = some (.inl (0, aI n f)) := fun S1 => (ovl_k (k := 0) (by decide)).trans ((ovc_k (k := 0) rfl).trans ((F1 0 2 0 (by decide)).trans hs))
  rw [((hM.fj F1).ovc (S1 := _)).ov]
  refine V_aload_n X dL_law_997 rfl rfl ?_
  refine V_aload_n X dL_law_998 rfl rfl ?_
  refine V_iload_n X dL_law_999 rfl ?_
  refine V_iconst (v := 1) X dL_law_1000 (by decide) ?_
  refine V_iadd X dL_law_1001 ?_
  apply V_iaload X dL_law_1002
  · exact hs2 _
  · exact sc_in (k := 1) hj hn (by decide)
  refine V_aload_n X dL_law_1003 rfl rfl ?_
  refine V_iload_n X dL_law_1004 rfl ?_
  refine V_iconst (v := 2) X dL_law_1005 (by decide) ?_
  refine V_iadd X dL_law_1006 ?_
  apply V_iaload X dL_law_1007
  · exact hs2 _
  · exact sc_in (k := 2) hj hn (by decide)
  refine V_aload_n X dL_law_1008 rfl rfl ?_
  refine V_iload_n X dL_law_1009 rfl ?_
  refine V_iconst (v := 3) X dL_law_1010 (by decide) ?_
  refine V_iadd X dL_law_1011 ?_
  apply V_iaload X dL_law_1012
  · exact hs2 _
  · exact sc_in (k := 3) hj hn (by decide)
  apply V_callV3 X dL_law_1013 mk_L_96 iv_X9_mode (m_mode l iv)
  · exact ovl_o
  · exact rfl
  · exact Nat.le_of_ble_eq_true rfl
  · exact ⟨Nat.le_of_ble_eq_true rfl, Nat.le_of_ble_eq_true rfl⟩
  · exact ⟨by dsimp only [rmm, room_1]; omega, by dsimp only [rmm, room_1]; omega⟩
  rintro r I1 ⟨rfl, rfl⟩
  refine V_icmp_eq X dL_law_1016 1385 (by decide) (fun c_1016 => ?_) (fun c_1016 => ?_)
  · exact hk _ _ _ _ (LI.nx R1 F1 hs (up1 cIS.mode hj2) (Nat.le_of_eq (congrArg nn m48_mode.symm)) hcc hss (by dsimp only [rmm]; omega) (by dsimp only [rmm]; omega))
  · exact absurd rfl c_1016
set_option maxRecDepth 100000 in
set_option maxHeartbeats 4000000 in
theorem lw_case_drop {l : Launch} {Z : Zt} {n : Nat} {f : Nat → Int32} {j : Nat} {S : St} {I : aH} {cells slots : Nat} (X : Fx Z l room_1 cL_law 4 RL (some .boolean) LQ) (hn : n ≤ 5120) (hj : 10 * j + 10 ≤ n) (L : LI n f j S I cells slots) (hk : ∀ S' I' cells' slots', LI n f (j + 1) S' I' cells' slots' → V Z 4 I' [some (.ref scr), some (.ref rO), some (.ref mO), some (.int (nI (10 * j)))] [] cells' slots' 1385) : V Z 4 I [some (.ref scr), some (.ref rO), some (.ref mO), some (.int (nI (10 * j)))] [] cells slots 1021 := by
  obtain ⟨Q, J, rfl, R, hM, hs, IS, hcc, hss⟩ := L
  have hs1 : ovc S J scr = some (.inl (0, aI n f)) := (ovc_k (k := 0) rfl).trans hs
  have hub := IS.ub
  have hj2 : j + 1 ≤ 512 := by omega
  have cIS := IS
  obtain ⟨iv, ct0, kd0, ow, fz, mw, ma, bt, rt, mo, kp, lo0, g0⟩ := IS
  have h60 := (ct_nn ct0.2.2.2.2.1 (by decide)).1
  have hqk : ∀ i, i < nn (S.1 32 0) → QK S i := fun i hi => ⟨(iv.2.1 i (by omega)).1, (iv.2.1 i (by omega)).2.1, (iv.2.1 i (by omega)).2.2.1, (iv.2.2.2.2.2.2 i hi).2.2⟩
  refine V_aload_n X dL_law_1021 rfl rfl ?_
  refine V_aload_n X dL_law_1022 rfl rfl ?_
  refine V_iload_n X dL_law_1023 rfl ?_
  refine V_iconst (v := 1) X dL_law_1024 (by decide) ?_
  refine V_iadd X dL_law_1025 ?_
  apply V_iaload X dL_law_1026
  · exact hs1
  · exact sc_in (k := 1) hj hn (by decide)
  refine V_aload_n X dL_law_1027 rfl rfl ?_
  refine V_iload_n X dL_law_1028 rfl ?_
  refine V_iconst (v := 2) X dL_law_1029 (by decide) ?_
  refine V_iadd X dL_law_1030 ?_
  apply V_iaload X dL_law_1031
  · exact hs1
  · exact sc_in (k := 2) hj hn (by decide)
  apply V_callV2 X dL_law_1032 mk_L_97 iv_X8_drop (k_drop l ct0 R ow hqk)
  · exact at_root
  · exact rfl
  · exact Nat.le_of_ble_eq_true rfl
  · exact ⟨Nat.le_of_ble_eq_true rfl, Nat.le_of_ble_eq_true rfl⟩
  · exact ⟨by dsimp only [rmm, room_1]; omega, by dsimp only [rmm, room_1]; omega⟩
  rintro r I1 ⟨rfl, Q1, J1, rfl, R1, F1⟩
  have hs2 : ∀ S1, ovl S (ovc S1 J1) scr = some (.inl (0, aI n f)) := fun S1 => (ovl_k (k := 0) (by decide)).trans ((ovc_k (k := 0) rfl).trans ((F1 0 2 0 (by decide)).trans hs))
  rw [((hM.fj F1).ovc (S1 := _)).ov]
  refine V_aload_n X dL_law_1035 rfl rfl ?_
  refine V_aload_n X dL_law_1036 rfl rfl ?_
  refine V_iload_n X dL_law_1037 rfl ?_
  refine V_iconst (v := 1) X dL_law_1038 (by decide) ?_
  refine V_iadd X dL_law_1039 ?_
  apply V_iaload X dL_law_1040
  · exact hs2 _
  · exact sc_in (k := 1) hj hn (by decide)
  refine V_aload_n X dL_law_1041 rfl rfl ?_
  refine V_iload_n X dL_law_1042 rfl ?_
  refine V_iconst (v := 2) X dL_law_1043 (by decide) ?_
  refine V_iadd X dL_law_1044 ?_
  apply V_iaload X dL_law_1045
  · exact hs2 _
  · exact sc_in (k := 2) hj hn (by decide)
  apply V_callV2 X dL_law_1046 mk_L_100 iv_X9_drop (m_drop l iv)
  · exact ovl_o
  · exact rfl
  · exact Nat.le_of_ble_eq_true rfl
  · exact ⟨Nat.le_of_ble_eq_true rfl, Nat.le_of_ble_eq_true rfl⟩
  · exact ⟨by dsimp only [rmm, room_1]; omega, by dsimp only [rmm, room_1]; omega⟩
  rintro r I1 ⟨rfl, rfl⟩
  refine V_icmp_eq X dL_law_1049 1385 (by decide) (fun c_1049 => ?_) (fun c_1049 => ?_)
  · exact hk _ _ _ _ (LI.nx R1 F1 hs (up1 cIS.drop hj2) (Nat.le_of_eq (congrArg nn m48_drop.symm)) hcc hss (by dsimp only [rmm]; omega) (by dsimp only [rmm]; omega))
  · exact absurd rfl c_1049
set_option maxRecDepth 100000 in
set_option maxHeartbeats 4000000 in
theorem lw_case_publish {l : Launch} {Z : Zt} {n : Nat} {f : Nat → Int32} {j : Nat} {S : St} {I : aH} {cells slots : Nat} (X : Fx Z l room_1 cL_law 4 RL (some .boolean) LQ) (hn : n ≤ 5120) (hj : 10 * j + 10 ≤ n) (L : LI n f j S I cells slots) (hk : ∀ S' I' cells' slots', LI n f (j + 1) S' I' cells' slots' → V Z 4 I' [some (.ref scr), some (.ref rO), some (.ref mO), some (.int (nI (10 * j)))] [] cells' slots' 1385) : V Z 4 I [some (.ref scr), some (.ref rO), some (.ref mO), some (.int (nI (10 * j)))] [] cells slots 1054 := by
  obtain ⟨Q, J, rfl, R, hM, hs, IS, hcc, hss⟩ := L
  have hs1 : ovc S J scr = some (.inl (0, aI n f)) := (ovc_k (k := 0) rfl).trans hs
  have hub := IS.ub
  have hj2 : j + 1 ≤ 512 := by omega
  have cIS := IS
  obtain ⟨iv, ct0, kd0, ow, fz, mw, ma, bt, rt, mo, kp, lo0, g0⟩ := IS
  refine V_aload_n X dL_law_1054 rfl rfl ?_
  refine V_aload_n X dL_law_1055 rfl rfl ?_
  refine V_iload_n X dL_law_1056 rfl ?_
  refine V_iconst (v := 1) X dL_law_1057 (by decide) ?_
  refine V_iadd X dL_law_1058 ?_
  apply V_iaload X dL_law_1059
  · exact hs1
  · exact sc_in (k := 1) hj hn (by decide)
  refine V_aload_n X dL_law_1060 rfl rfl ?_
  refine V_iload_n X dL_law_1061 rfl ?_
  refine V_iconst (v := 2) X dL_law_1062 (by decide) ?_
  refine V_iadd X dL_law_1063 ?_
  apply V_iaload X dL_law_1064
  · exact hs1
  · exact sc_in (k := 2) hj hn (by decide)
  refine V_aload_n X dL_law_1065 rfl rfl ?_
  refine V_iload_n X dL_law_1066 rfl ?_
  refine V_iconst (v := 3) X dL_law_1067 (by decide) ?_
  refine V_iadd X dL_law_1068 ?_
  apply V_iaload X dL_law_1069
  · exact hs1
  · exact sc_in (k := 3) hj hn (by decide)
  apply V_callV3 X dL_law_1070 mk_L_101 iv_X8_publish (k_publish l cIS hj2 (by omega) R)
  · exact at_root
  · exact rfl
  · exact Nat.le_of_ble_eq_true rfl
  · exact ⟨Nat.le_of_ble_eq_true rfl, Nat.le_of_ble_eq_true rfl⟩
  · exact ⟨by dsimp only [rmm, room_1]; omega, by dsimp only [rmm, room_1]; omega⟩
  rintro r I1 ⟨rfl, Q1, J1, rfl, R1, F1⟩
  have hs2 : ∀ S1, ovl S (ovc S1 J1) scr = some (.inl (0, aI n f)) := fun S1 => (ovl_k (k := 0) (by decide)).trans ((ovc_k (k := 0) rfl).trans ((F1 0 2 0 (by decide)).trans hs))
  rw [((hM.fj F1).ovc (S1 := _)).ov]
  refine V_aload_n X dL_law_1073 rfl rfl ?_
  refine V_aload_n X dL_law_1074 rfl rfl ?_
  refine V_iload_n X dL_law_1075 rfl ?_
  refine V_iconst (v := 1) X dL_law_1076 (by decide) ?_
  refine V_iadd X dL_law_1077 ?_
  apply V_iaload X dL_law_1078
  · exact hs2 _
  · exact sc_in (k := 1) hj hn (by decide)
  refine V_aload_n X dL_law_1079 rfl rfl ?_
  refine V_iload_n X dL_law_1080 rfl ?_
  refine V_iconst (v := 2) X dL_law_1081 (by decide) ?_
  refine V_iadd X dL_law_1082 ?_
  apply V_iaload X dL_law_1083
  · exact hs2 _
  · exact sc_in (k := 2) hj hn (by decide)
  refine V_aload_n X dL_law_1084 rfl rfl ?_
  refine V_iload_n X dL_law_1085 rfl ?_
  refine V_iconst (v := 3) X dL_law_1086 (by decide) ?_
  refine V_iadd X dL_law_1087 ?_
  apply V_iaload X dL_law_1088
  · exact hs2 _
  · exact sc_in (k := 3) hj hn (by decide)
  apply V_callV3 X dL_law_1089 mk_L_104 iv_X9_publish (m_publish l iv hj2)
  · exact ovl_o
  · exact rfl
  · exact Nat.le_of_ble_eq_true rfl
  · exact ⟨Nat.le_of_ble_eq_true rfl, Nat.le_of_ble_eq_true rfl⟩
  · exact ⟨by dsimp only [rmm, room_1]; omega, by dsimp only [rmm, room_1]; omega⟩
  rintro r I1 ⟨rfl, rfl⟩
  refine V_icmp_eq X dL_law_1092 1385 (by decide) (fun c_1092 => ?_) (fun c_1092 => ?_)
  · exact hk _ _ _ _ (LI.nx R1 F1 hs ((in_publish cIS hj2).up (by omega)) (m48_publish cIS hj2) hcc hss (by dsimp only [rmm]; omega) (by dsimp only [rmm]; omega))
  · exact absurd rfl c_1092
set_option maxRecDepth 100000 in
set_option maxHeartbeats 4000000 in
theorem lw_case_acked {l : Launch} {Z : Zt} {n : Nat} {f : Nat → Int32} {j : Nat} {S : St} {I : aH} {cells slots : Nat} (X : Fx Z l room_1 cL_law 4 RL (some .boolean) LQ) (hn : n ≤ 5120) (hj : 10 * j + 10 ≤ n) (L : LI n f j S I cells slots) (hk : ∀ S' I' cells' slots', LI n f (j + 1) S' I' cells' slots' → V Z 4 I' [some (.ref scr), some (.ref rO), some (.ref mO), some (.int (nI (10 * j)))] [] cells' slots' 1385) : V Z 4 I [some (.ref scr), some (.ref rO), some (.ref mO), some (.int (nI (10 * j)))] [] cells slots 1097 := by
  obtain ⟨Q, J, rfl, R, hM, hs, IS, hcc, hss⟩ := L
  have hs1 : ovc S J scr = some (.inl (0, aI n f)) := (ovc_k (k := 0) rfl).trans hs
  have hub := IS.ub
  have hj2 : j + 1 ≤ 512 := by omega
  have cIS := IS
  obtain ⟨iv, ct0, kd0, ow, fz, mw, ma, bt, rt, mo, kp, lo0, g0⟩ := IS
  have hs2 : ∀ S1, ovl S (ovc S1 J) scr = some (.inl (0, aI n f)) := fun S1 => (ovl_k (k := 0) (by decide)).trans ((ovc_k (k := 0) rfl).trans hs)
  refine V_aload_n X dL_law_1097 rfl rfl ?_
  apply V_callV0 X dL_law_1098 mk_L_105 iv_X8_acknowledged (k_acked l (S := S) (J := J))
  · exact at_root
  · exact rfl
  · exact Nat.le_of_ble_eq_true rfl
  · exact ⟨Nat.le_of_ble_eq_true rfl, Nat.le_of_ble_eq_true rfl⟩
  · exact ⟨by dsimp only [rmm, room_1]; omega, by dsimp only [rmm, room_1]; omega⟩
  rintro r I1 ⟨rfl, rfl⟩
  rw [(hM.ovc (S1 := _)).ov]
  refine V_aload_n X dL_law_1101 rfl rfl ?_
  apply V_callV0 X dL_law_1102 mk_L_109 iv_X9_acknowledged (m_acked l)
  · exact ovl_o
  · exact rfl
  · exact Nat.le_of_ble_eq_true rfl
  · exact ⟨Nat.le_of_ble_eq_true rfl, Nat.le_of_ble_eq_true rfl⟩
  · exact ⟨by dsimp only [rmm, room_1]; omega, by dsimp only [rmm, room_1]; omega⟩
  rintro r I1 ⟨rfl, rfl⟩
  refine V_icmp_eq X dL_law_1105 1385 (by decide) (fun c_1105 => ?_) (fun c_1105 => ?_)
  · exact hk _ _ _ _ (LI.nx R FJ.rf hs (up1 cIS hj2) (Nat.le_refl _) hcc hss (by dsimp only [rmm]; omega) (by dsimp only [rmm]; omega))
  · exact absurd rfl c_1105
set_option maxRecDepth 100000 in
set_option maxHeartbeats 4000000 in
theorem lw_case_again {l : Launch} {Z : Zt} {n : Nat} {f : Nat → Int32} {j : Nat} {S : St} {I : aH} {cells slots : Nat} (X : Fx Z l room_1 cL_law 4 RL (some .boolean) LQ) (hn : n ≤ 5120) (hj : 10 * j + 10 ≤ n) (L : LI n f j S I cells slots) (hk : ∀ S' I' cells' slots', LI n f (j + 1) S' I' cells' slots' → V Z 4 I' [some (.ref scr), some (.ref rO), some (.ref mO), some (.int (nI (10 * j)))] [] cells' slots' 1385) : V Z 4 I [some (.ref scr), some (.ref rO), some (.ref mO), some (.int (nI (10 * j)))] [] cells slots 1110 := by
  obtain ⟨Q, J, rfl, R, hM, hs, IS, hcc, hss⟩ := L
  have hs1 : ovc S J scr = some (.inl (0, aI n f)) := (ovc_k (k := 0) rfl).trans hs
  have hub := IS.ub
  have hj2 : j + 1 ≤ 512 := by omega
  have cIS := IS
  obtain ⟨iv, ct0, kd0, ow, fz, mw, ma, bt, rt, mo, kp, lo0, g0⟩ := IS
  refine V_aload_n X dL_law_1110 rfl rfl ?_
  refine V_aload_n X dL_law_1111 rfl rfl ?_
  refine V_iload_n X dL_law_1112 rfl ?_
  refine V_iconst (v := 1) X dL_law_1113 (by decide) ?_
  refine V_iadd X dL_law_1114 ?_
  apply V_iaload X dL_law_1115
  · exact hs1
  · exact sc_in (k := 1) hj hn (by decide)
  refine V_aload_n X dL_law_1116 rfl rfl ?_
  refine V_iload_n X dL_law_1117 rfl ?_
  refine V_iconst (v := 2) X dL_law_1118 (by decide) ?_
  refine V_iadd X dL_law_1119 ?_
  apply V_iaload X dL_law_1120
  · exact hs1
  · exact sc_in (k := 2) hj hn (by decide)
  refine V_aload_n X dL_law_1121 rfl rfl ?_
  refine V_iload_n X dL_law_1122 rfl ?_
  refine V_iconst (v := 3) X dL_law_1123 (by decide) ?_
  refine V_iadd X dL_law_1124 ?_
  apply V_iaload X dL_law_1125
  · exact hs1
  · exact sc_in (k := 3) hj hn (by decide)
  apply V_callV3 X dL_law_1126 mk_L_110 iv_X8_again (k_again l cIS R)
  · exact at_root
  · exact rfl
  · exact Nat.le_of_ble_eq_true rfl
  · exact ⟨Nat.le_of_ble_eq_true rfl, Nat.le_of_ble_eq_true rfl⟩
  · exact ⟨by dsimp only [rmm, room_1]; omega, by dsimp only [rmm, room_1]; omega⟩
  rintro r I1 ⟨rfl, Q1, J1, rfl, R1, F1⟩
  have hs2 : ∀ S1, ovl S (ovc S1 J1) scr = some (.inl (0, aI n f)) := fun S1 => (ovl_k (k := 0) (by decide)).trans ((ovc_k (k := 0) rfl).trans ((F1 0 2 0 (by decide)).trans hs))
  rw [((hM.fj F1).ovc (S1 := _)).ov]
  refine V_aload_n X dL_law_1129 rfl rfl ?_
  refine V_aload_n X dL_law_1130 rfl rfl ?_
  refine V_iload_n X dL_law_1131 rfl ?_
  refine V_iconst (v := 1) X dL_law_1132 (by decide) ?_
  refine V_iadd X dL_law_1133 ?_
  apply V_iaload X dL_law_1134
  · exact hs2 _
  · exact sc_in (k := 1) hj hn (by decide)
  refine V_aload_n X dL_law_1135 rfl rfl ?_
  refine V_iload_n X dL_law_1136 rfl ?_
  refine V_iconst (v := 2) X dL_law_1137 (by decide) ?_
  refine V_iadd X dL_law_1138 ?_
  apply V_iaload X dL_law_1139
  · exact hs2 _
  · exact sc_in (k := 2) hj hn (by decide)
  refine V_aload_n X dL_law_1140 rfl rfl ?_
  refine V_iload_n X dL_law_1141 rfl ?_
  refine V_iconst (v := 3) X dL_law_1142 (by decide) ?_
  refine V_iadd X dL_law_1143 ?_
  apply V_iaload X dL_law_1144
  · exact hs2 _
  · exact sc_in (k := 3) hj hn (by decide)
  apply V_callV3 X dL_law_1145 mk_L_113 iv_X9_again (m_again l iv)
  · exact ovl_o
  · exact rfl
  · exact Nat.le_of_ble_eq_true rfl
  · exact ⟨Nat.le_of_ble_eq_true rfl, Nat.le_of_ble_eq_true rfl⟩
  · exact ⟨by dsimp only [rmm, room_1]; omega, by dsimp only [rmm, room_1]; omega⟩
  rintro r I1 ⟨rfl, rfl⟩
  refine V_icmp_eq X dL_law_1148 1385 (by decide) (fun c_1148 => ?_) (fun c_1148 => ?_)
  · exact hk _ _ _ _ (LI.nx R1 F1 hs ((cIS.again hj2).up (by omega)) (Nat.le_of_eq (congrArg nn m48_again.symm)) hcc hss (by dsimp only [rmm]; omega) (by dsimp only [rmm]; omega))
  · exact absurd rfl c_1148
set_option maxRecDepth 100000 in
set_option maxHeartbeats 4000000 in
theorem lw_case_mail {l : Launch} {Z : Zt} {n : Nat} {f : Nat → Int32} {j : Nat} {S : St} {I : aH} {cells slots : Nat} (X : Fx Z l room_1 cL_law 4 RL (some .boolean) LQ) (hn : n ≤ 5120) (hj : 10 * j + 10 ≤ n) (L : LI n f j S I cells slots) (hk : ∀ S' I' cells' slots', LI n f (j + 1) S' I' cells' slots' → V Z 4 I' [some (.ref scr), some (.ref rO), some (.ref mO), some (.int (nI (10 * j)))] [] cells' slots' 1385) : V Z 4 I [some (.ref scr), some (.ref rO), some (.ref mO), some (.int (nI (10 * j)))] [] cells slots 1153 := by
  obtain ⟨Q, J, rfl, R, hM, hs, IS, hcc, hss⟩ := L
  have hs1 : ovc S J scr = some (.inl (0, aI n f)) := (ovc_k (k := 0) rfl).trans hs
  have hub := IS.ub
  have hj2 : j + 1 ≤ 512 := by omega
  have cIS := IS
  obtain ⟨iv, ct0, kd0, ow, fz, mw, ma, bt, rt, mo, kp, lo0, g0⟩ := IS
  have hs2 : ∀ S1, ovl S (ovc S1 J) scr = some (.inl (0, aI n f)) := fun S1 => (ovl_k (k := 0) (by decide)).trans ((ovc_k (k := 0) rfl).trans hs)
  have h13 : ∀ x, x < 12 → ∃ N, N ≤ 1200 ∧ S.1 13 x = nI N := fun x hx => ⟨nn (S.1 13 x), by have := (iv.2.2.2.1 x hx).2.2; omega, (iv.2.2.2.1 x hx).2.1⟩
  refine V_aload_n X dL_law_1153 rfl rfl ?_
  refine V_aload_n X dL_law_1154 rfl rfl ?_
  refine V_iload_n X dL_law_1155 rfl ?_
  refine V_iconst (v := 1) X dL_law_1156 (by decide) ?_
  refine V_iadd X dL_law_1157 ?_
  apply V_iaload X dL_law_1158
  · exact hs1
  · exact sc_in (k := 1) hj hn (by decide)
  refine V_aload_n X dL_law_1159 rfl rfl ?_
  refine V_iload_n X dL_law_1160 rfl ?_
  refine V_iconst (v := 2) X dL_law_1161 (by decide) ?_
  refine V_iadd X dL_law_1162 ?_
  apply V_iaload X dL_law_1163
  · exact hs1
  · exact sc_in (k := 2) hj hn (by decide)
  apply V_callV2 X dL_law_1164 mk_L_114 iv_X8_mail (k_mail l ct0 R ma)
  · exact at_root
  · exact rfl
  · exact Nat.le_of_ble_eq_true rfl
  · exact ⟨Nat.le_of_ble_eq_true rfl, Nat.le_of_ble_eq_true rfl⟩
  · exact ⟨by dsimp only [rmm, room_1]; omega, by dsimp only [rmm, room_1]; omega⟩
  rintro r I1 ⟨rfl, rfl⟩
  rw [(hM.ovc (S1 := _)).ov]
  refine V_aload_n X dL_law_1167 rfl rfl ?_
  refine V_aload_n X dL_law_1168 rfl rfl ?_
  refine V_iload_n X dL_law_1169 rfl ?_
  refine V_iconst (v := 1) X dL_law_1170 (by decide) ?_
  refine V_iadd X dL_law_1171 ?_
  apply V_iaload X dL_law_1172
  · exact hs2 _
  · exact sc_in (k := 1) hj hn (by decide)
  refine V_aload_n X dL_law_1173 rfl rfl ?_
  refine V_iload_n X dL_law_1174 rfl ?_
  refine V_iconst (v := 2) X dL_law_1175 (by decide) ?_
  refine V_iadd X dL_law_1176 ?_
  apply V_iaload X dL_law_1177
  · exact hs2 _
  · exact sc_in (k := 2) hj hn (by decide)
  apply V_callV2 X dL_law_1178 mk_L_117 iv_X9_mail (m_mail l ct0.2.2.1 h13)
  · exact ovl_o
  · exact rfl
  · exact Nat.le_of_ble_eq_true rfl
  · exact ⟨Nat.le_of_ble_eq_true rfl, Nat.le_of_ble_eq_true rfl⟩
  · exact ⟨by dsimp only [rmm, room_1]; omega, by dsimp only [rmm, room_1]; omega⟩
  rintro r I1 ⟨rfl, rfl⟩
  refine V_icmp_eq X dL_law_1181 1385 (by decide) (fun c_1181 => ?_) (fun c_1181 => ?_)
  · exact hk _ _ _ _ (LI.nx R FJ.rf hs (up1 cIS hj2) (Nat.le_refl _) hcc hss (by dsimp only [rmm]; omega) (by dsimp only [rmm]; omega))
  · exact absurd rfl c_1181
set_option maxRecDepth 100000 in
set_option maxHeartbeats 4000000 in
theorem lw_case_message {l : Launch} {Z : Zt} {n : Nat} {f : Nat → Int32} {j : Nat} {S : St} {I : aH} {cells slots : Nat} (X : Fx Z l room_1 cL_law 4 RL (some .boolean) LQ) (hn : n ≤ 5120) (hj : 10 * j + 10 ≤ n) (L : LI n f j S I cells slots) (hk : ∀ S' I' cells' slots', LI n f (j + 1) S' I' cells' slots' → V Z 4 I' [some (.ref scr), some (.ref rO), some (.ref mO), some (.int (nI (10 * j)))] [] cells' slots' 1385) : V Z 4 I [some (.ref scr), some (.ref rO), some (.ref mO), some (.int (nI (10 * j)))] [] cells slots 1186 := by
  obtain ⟨Q, J, rfl, R, hM, hs, IS, hcc, hss⟩ := L
  have hs1 : ovc S J scr = some (.inl (0, aI n f)) := (ovc_k (k := 0) rfl).trans hs
  have hub := IS.ub
  have hj2 : j + 1 ≤ 512 := by omega
  have cIS := IS
  obtain ⟨iv, ct0, kd0, ow, fz, mw, ma, bt, rt, mo, kp, lo0, g0⟩ := IS
  have hs2 : ∀ S1, ovl S (ovc S1 J) scr = some (.inl (0, aI n f)) := fun S1 => (ovl_k (k := 0) (by decide)).trans ((ovc_k (k := 0) rfl).trans hs)
  refine V_aload_n X dL_law_1186 rfl rfl ?_
  refine V_aload_n X dL_law_1187 rfl rfl ?_
  refine V_iload_n X dL_law_1188 rfl ?_
  refine V_iconst (v := 1) X dL_law_1189 (by decide) ?_
  refine V_iadd X dL_law_1190 ?_
  apply V_iaload X dL_law_1191
  · exact hs1
  · exact sc_in (k := 1) hj hn (by decide)
  refine V_aload_n X dL_law_1192 rfl rfl ?_
  refine V_iload_n X dL_law_1193 rfl ?_
  refine V_iconst (v := 2) X dL_law_1194 (by decide) ?_
  refine V_iadd X dL_law_1195 ?_
  apply V_iaload X dL_law_1196
  · exact hs1
  · exact sc_in (k := 2) hj hn (by decide)
  apply V_callV2 X dL_law_1197 mk_L_118 iv_X8_message (k_message l ct0 R)
  · exact at_root
  · exact rfl
  · exact Nat.le_of_ble_eq_true rfl
  · exact ⟨Nat.le_of_ble_eq_true rfl, Nat.le_of_ble_eq_true rfl⟩
  · exact ⟨by dsimp only [rmm, room_1]; omega, by dsimp only [rmm, room_1]; omega⟩
  rintro r I1 ⟨rfl, rfl⟩
  rw [(hM.ovc (S1 := _)).ov]
  refine V_aload_n X dL_law_1200 rfl rfl ?_
  refine V_aload_n X dL_law_1201 rfl rfl ?_
  refine V_iload_n X dL_law_1202 rfl ?_
  refine V_iconst (v := 1) X dL_law_1203 (by decide) ?_
  refine V_iadd X dL_law_1204 ?_
  apply V_iaload X dL_law_1205
  · exact hs2 _
  · exact sc_in (k := 1) hj hn (by decide)
  refine V_aload_n X dL_law_1206 rfl rfl ?_
  refine V_iload_n X dL_law_1207 rfl ?_
  refine V_iconst (v := 2) X dL_law_1208 (by decide) ?_
  refine V_iadd X dL_law_1209 ?_
  apply V_iaload X dL_law_1210
  · exact hs2 _
  · exact sc_in (k := 2) hj hn (by decide)
  apply V_callV2 X dL_law_1211 mk_L_121 iv_X9_message (m_message l (ct_up ct0.2.2.2.2.2 (by decide)))
  · exact ovl_o
  · exact rfl
  · exact Nat.le_of_ble_eq_true rfl
  · exact ⟨Nat.le_of_ble_eq_true rfl, Nat.le_of_ble_eq_true rfl⟩
  · exact ⟨by dsimp only [rmm, room_1]; omega, by dsimp only [rmm, room_1]; omega⟩
  rintro r I1 ⟨rfl, rfl⟩
  refine V_icmp_eq X dL_law_1214 1385 (by decide) (fun c_1214 => ?_) (fun c_1214 => ?_)
  · exact hk _ _ _ _ (LI.nx R FJ.rf hs (up1 cIS hj2) (Nat.le_refl _) hcc hss (by dsimp only [rmm]; omega) (by dsimp only [rmm]; omega))
  · exact absurd rfl c_1214
set_option maxRecDepth 100000 in
set_option maxHeartbeats 4000000 in
theorem lw_case_entry {l : Launch} {Z : Zt} {n : Nat} {f : Nat → Int32} {j : Nat} {S : St} {I : aH} {cells slots : Nat} (X : Fx Z l room_1 cL_law 4 RL (some .boolean) LQ) (hn : n ≤ 5120) (hj : 10 * j + 10 ≤ n) (L : LI n f j S I cells slots) (hk : ∀ S' I' cells' slots', LI n f (j + 1) S' I' cells' slots' → V Z 4 I' [some (.ref scr), some (.ref rO), some (.ref mO), some (.int (nI (10 * j)))] [] cells' slots' 1385) : V Z 4 I [some (.ref scr), some (.ref rO), some (.ref mO), some (.int (nI (10 * j)))] [] cells slots 1219 := by
  obtain ⟨Q, J, rfl, R, hM, hs, IS, hcc, hss⟩ := L
  have hs1 : ovc S J scr = some (.inl (0, aI n f)) := (ovc_k (k := 0) rfl).trans hs
  have hub := IS.ub
  have hj2 : j + 1 ≤ 512 := by omega
  have cIS := IS
  obtain ⟨iv, ct0, kd0, ow, fz, mw, ma, bt, rt, mo, kp, lo0, g0⟩ := IS
  have hs2 : ∀ S1, ovl S (ovc S1 J) scr = some (.inl (0, aI n f)) := fun S1 => (ovl_k (k := 0) (by decide)).trans ((ovc_k (k := 0) rfl).trans hs)
  have h51 : ∀ x, x < nn (S.1 48 0) → ∃ N, N ≤ 40 ∧ S.1 51 x = nI N := fun x hx => ⟨nn (S.1 51 x), (R.2.2.2.2.1 x hx).1.2, (R.2.2.2.2.1 x hx).1.1⟩
  refine V_aload_n X dL_law_1219 rfl rfl ?_
  refine V_aload_n X dL_law_1220 rfl rfl ?_
  refine V_iload_n X dL_law_1221 rfl ?_
  refine V_iconst (v := 1) X dL_law_1222 (by decide) ?_
  refine V_iadd X dL_law_1223 ?_
  apply V_iaload X dL_law_1224
  · exact hs1
  · exact sc_in (k := 1) hj hn (by decide)
  refine V_aload_n X dL_law_1225 rfl rfl ?_
  refine V_iload_n X dL_law_1226 rfl ?_
  refine V_iconst (v := 2) X dL_law_1227 (by decide) ?_
  refine V_iadd X dL_law_1228 ?_
  apply V_iaload X dL_law_1229
  · exact hs1
  · exact sc_in (k := 2) hj hn (by decide)
  refine V_aload_n X dL_law_1230 rfl rfl ?_
  refine V_iload_n X dL_law_1231 rfl ?_
  refine V_iconst (v := 3) X dL_law_1232 (by decide) ?_
  refine V_iadd X dL_law_1233 ?_
  apply V_iaload X dL_law_1234
  · exact hs1
  · exact sc_in (k := 3) hj hn (by decide)
  apply V_callV3 X dL_law_1235 mk_L_122 iv_X8_entry (k_entry l ct0 R bt)
  · exact at_root
  · exact rfl
  · exact Nat.le_of_ble_eq_true rfl
  · exact ⟨Nat.le_of_ble_eq_true rfl, Nat.le_of_ble_eq_true rfl⟩
  · exact ⟨by dsimp only [rmm, room_1]; omega, by dsimp only [rmm, room_1]; omega⟩
  rintro r I1 ⟨rfl, rfl⟩
  rw [(hM.ovc (S1 := _)).ov]
  refine V_aload_n X dL_law_1238 rfl rfl ?_
  refine V_aload_n X dL_law_1239 rfl rfl ?_
  refine V_iload_n X dL_law_1240 rfl ?_
  refine V_iconst (v := 1) X dL_law_1241 (by decide) ?_
  refine V_iadd X dL_law_1242 ?_
  apply V_iaload X dL_law_1243
  · exact hs2 _
  · exact sc_in (k := 1) hj hn (by decide)
  refine V_aload_n X dL_law_1244 rfl rfl ?_
  refine V_iload_n X dL_law_1245 rfl ?_
  refine V_iconst (v := 2) X dL_law_1246 (by decide) ?_
  refine V_iadd X dL_law_1247 ?_
  apply V_iaload X dL_law_1248
  · exact hs2 _
  · exact sc_in (k := 2) hj hn (by decide)
  refine V_aload_n X dL_law_1249 rfl rfl ?_
  refine V_iload_n X dL_law_1250 rfl ?_
  refine V_iconst (v := 3) X dL_law_1251 (by decide) ?_
  refine V_iadd X dL_law_1252 ?_
  apply V_iaload X dL_law_1253
  · exact hs2 _
  · exact sc_in (k := 3) hj hn (by decide)
  apply V_callV3 X dL_law_1254 mk_L_126 iv_X9_entry (m_entry l (ct_up ct0.2.2.2.2.2 (by decide)) h51)
  · exact ovl_o
  · exact rfl
  · exact Nat.le_of_ble_eq_true rfl
  · exact ⟨Nat.le_of_ble_eq_true rfl, Nat.le_of_ble_eq_true rfl⟩
  · exact ⟨by dsimp only [rmm, room_1]; omega, by dsimp only [rmm, room_1]; omega⟩
  rintro r I1 ⟨rfl, rfl⟩
  refine V_lcmp X dL_law_1257 ?_
  rw [lcmp0]
  refine V_if_eq X dL_law_1258 1385 (by decide) (fun c_1258 => ?_) (fun c_1258 => ?_)
  · exact hk _ _ _ _ (LI.nx R FJ.rf hs (up1 cIS hj2) (Nat.le_refl _) hcc hss (by dsimp only [rmm]; omega) (by dsimp only [rmm]; omega))
  · exact absurd rfl c_1258
set_option maxRecDepth 100000 in
set_option maxHeartbeats 4000000 in
theorem lw_case_ses {l : Launch} {Z : Zt} {n : Nat} {f : Nat → Int32} {j : Nat} {S : St} {I : aH} {cells slots : Nat} (X : Fx Z l room_1 cL_law 4 RL (some .boolean) LQ) (hn : n ≤ 5120) (hj : 10 * j + 10 ≤ n) (L : LI n f j S I cells slots) (hk : ∀ S' I' cells' slots', LI n f (j + 1) S' I' cells' slots' → V Z 4 I' [some (.ref scr), some (.ref rO), some (.ref mO), some (.int (nI (10 * j)))] [] cells' slots' 1385) : V Z 4 I [some (.ref scr), some (.ref rO), some (.ref mO), some (.int (nI (10 * j)))] [] cells slots 1263 := by
  obtain ⟨Q, J, rfl, R, hM, hs, IS, hcc, hss⟩ := L
  have hs1 : ovc S J scr = some (.inl (0, aI n f)) := (ovc_k (k := 0) rfl).trans hs
  have hub := IS.ub
  have hj2 : j + 1 ≤ 512 := by omega
  have cIS := IS
  obtain ⟨iv, ct0, kd0, ow, fz, mw, ma, bt, rt, mo, kp, lo0, g0⟩ := IS
  have hs2 : ∀ S1, ovl S (ovc S1 J) scr = some (.inl (0, aI n f)) := fun S1 => (ovl_k (k := 0) (by decide)).trans ((ovc_k (k := 0) rfl).trans hs)
  refine V_aload_n X dL_law_1263 rfl rfl ?_
  refine V_aload_n X dL_law_1264 rfl rfl ?_
  refine V_iload_n X dL_law_1265 rfl ?_
  refine V_iconst (v := 1) X dL_law_1266 (by decide) ?_
  refine V_iadd X dL_law_1267 ?_
  apply V_iaload X dL_law_1268
  · exact hs1
  · exact sc_in (k := 1) hj hn (by decide)
  refine V_aload_n X dL_law_1269 rfl rfl ?_
  refine V_iload_n X dL_law_1270 rfl ?_
  refine V_iconst (v := 2) X dL_law_1271 (by decide) ?_
  refine V_iadd X dL_law_1272 ?_
  apply V_iaload X dL_law_1273
  · exact hs1
  · exact sc_in (k := 2) hj hn (by decide)
  apply V_callV2 X dL_law_1274 mk_L_127 iv_X8_sessionOf (k_ses l ct0 R ma ow)
  · exact at_root
  · exact rfl
  · exact Nat.le_of_ble_eq_true rfl
  · exact ⟨Nat.le_of_ble_eq_true rfl, Nat.le_of_ble_eq_true rfl⟩
  · exact ⟨by dsimp only [rmm, room_1]; omega, by dsimp only [rmm, room_1]; omega⟩
  rintro r I1 ⟨rfl, rfl⟩
  rw [(hM.ovc (S1 := _)).ov]
  refine V_aload_n X dL_law_1277 rfl rfl ?_
  refine V_aload_n X dL_law_1278 rfl rfl ?_
  refine V_iload_n X dL_law_1279 rfl ?_
  refine V_iconst (v := 1) X dL_law_1280 (by decide) ?_
  refine V_iadd X dL_law_1281 ?_
  apply V_iaload X dL_law_1282
  · exact hs2 _
  · exact sc_in (k := 1) hj hn (by decide)
  refine V_aload_n X dL_law_1283 rfl rfl ?_
  refine V_iload_n X dL_law_1284 rfl ?_
  refine V_iconst (v := 2) X dL_law_1285 (by decide) ?_
  refine V_iadd X dL_law_1286 ?_
  apply V_iaload X dL_law_1287
  · exact hs2 _
  · exact sc_in (k := 2) hj hn (by decide)
  apply V_callV2 X dL_law_1288 mk_L_130 iv_X9_sessionOf (m_ses l ct0.2.2.1 ct0.2.2.2.1)
  · exact ovl_o
  · exact rfl
  · exact Nat.le_of_ble_eq_true rfl
  · exact ⟨Nat.le_of_ble_eq_true rfl, Nat.le_of_ble_eq_true rfl⟩
  · exact ⟨by dsimp only [rmm, room_1]; omega, by dsimp only [rmm, room_1]; omega⟩
  rintro r I1 ⟨rfl, rfl⟩
  refine V_icmp_eq X dL_law_1291 1385 (by decide) (fun c_1291 => ?_) (fun c_1291 => ?_)
  · exact hk _ _ _ _ (LI.nx R FJ.rf hs (up1 cIS hj2) (Nat.le_refl _) hcc hss (by dsimp only [rmm]; omega) (by dsimp only [rmm]; omega))
  · exact absurd rfl c_1291
set_option maxRecDepth 100000 in
set_option maxHeartbeats 4000000 in
theorem lw_case_sub {l : Launch} {Z : Zt} {n : Nat} {f : Nat → Int32} {j : Nat} {S : St} {I : aH} {cells slots : Nat} (X : Fx Z l room_1 cL_law 4 RL (some .boolean) LQ) (hn : n ≤ 5120) (hj : 10 * j + 10 ≤ n) (L : LI n f j S I cells slots) (hk : ∀ S' I' cells' slots', LI n f (j + 1) S' I' cells' slots' → V Z 4 I' [some (.ref scr), some (.ref rO), some (.ref mO), some (.int (nI (10 * j)))] [] cells' slots' 1385) : V Z 4 I [some (.ref scr), some (.ref rO), some (.ref mO), some (.int (nI (10 * j)))] [] cells slots 1296 := by
  obtain ⟨Q, J, rfl, R, hM, hs, IS, hcc, hss⟩ := L
  have hs1 : ovc S J scr = some (.inl (0, aI n f)) := (ovc_k (k := 0) rfl).trans hs
  have hub := IS.ub
  have hj2 : j + 1 ≤ 512 := by omega
  have cIS := IS
  obtain ⟨iv, ct0, kd0, ow, fz, mw, ma, bt, rt, mo, kp, lo0, g0⟩ := IS
  have hs2 : ∀ S1, ovl S (ovc S1 J) scr = some (.inl (0, aI n f)) := fun S1 => (ovl_k (k := 0) (by decide)).trans ((ovc_k (k := 0) rfl).trans hs)
  have h60 := (ct_nn ct0.2.2.2.2.1 (by decide)).1
  have hQ : ∀ i, i < nn (S.1 32 0) → sm (S.1 44 i) 8 := fun i hi => (iv.2.1 i (by omega)).1
  refine V_aload_n X dL_law_1296 rfl rfl ?_
  refine V_aload_n X dL_law_1297 rfl rfl ?_
  refine V_iload_n X dL_law_1298 rfl ?_
  refine V_iconst (v := 1) X dL_law_1299 (by decide) ?_
  refine V_iadd X dL_law_1300 ?_
  apply V_iaload X dL_law_1301
  · exact hs1
  · exact sc_in (k := 1) hj hn (by decide)
  refine V_aload_n X dL_law_1302 rfl rfl ?_
  refine V_iload_n X dL_law_1303 rfl ?_
  refine V_iconst (v := 2) X dL_law_1304 (by decide) ?_
  refine V_iadd X dL_law_1305 ?_
  apply V_iaload X dL_law_1306
  · exact hs1
  · exact sc_in (k := 2) hj hn (by decide)
  apply V_callV2 X dL_law_1307 mk_L_131 iv_X8_subscription (k_sub l ct0 R ow hQ)
  · exact at_root
  · exact rfl
  · exact Nat.le_of_ble_eq_true rfl
  · exact ⟨Nat.le_of_ble_eq_true rfl, Nat.le_of_ble_eq_true rfl⟩
  · exact ⟨by dsimp only [rmm, room_1]; omega, by dsimp only [rmm, room_1]; omega⟩
  rintro r I1 ⟨rfl, rfl⟩
  rw [(hM.ovc (S1 := _)).ov]
  refine V_aload_n X dL_law_1310 rfl rfl ?_
  refine V_aload_n X dL_law_1311 rfl rfl ?_
  refine V_iload_n X dL_law_1312 rfl ?_
  refine V_iconst (v := 1) X dL_law_1313 (by decide) ?_
  refine V_iadd X dL_law_1314 ?_
  apply V_iaload X dL_law_1315
  · exact hs2 _
  · exact sc_in (k := 1) hj hn (by decide)
  refine V_aload_n X dL_law_1316 rfl rfl ?_
  refine V_iload_n X dL_law_1317 rfl ?_
  refine V_iconst (v := 2) X dL_law_1318 (by decide) ?_
  refine V_iadd X dL_law_1319 ?_
  apply V_iaload X dL_law_1320
  · exact hs2 _
  · exact sc_in (k := 2) hj hn (by decide)
  apply V_callV2 X dL_law_1321 mk_L_134 iv_X9_subscription (m_sub l ct0.2.2.2.1 ct0.2.2.2.2.1 (ct_up ct0.2.2.2.2.2 (by decide)))
  · exact ovl_o
  · exact rfl
  · exact Nat.le_of_ble_eq_true rfl
  · exact ⟨Nat.le_of_ble_eq_true rfl, Nat.le_of_ble_eq_true rfl⟩
  · exact ⟨by dsimp only [rmm, room_1]; omega, by dsimp only [rmm, room_1]; omega⟩
  rintro r I1 ⟨rfl, rfl⟩
  refine V_icmp_eq X dL_law_1324 1385 (by decide) (fun c_1324 => ?_) (fun c_1324 => ?_)
  · exact hk _ _ _ _ (LI.nx R FJ.rf hs (up1 cIS hj2) (Nat.le_refl _) hcc hss (by dsimp only [rmm]; omega) (by dsimp only [rmm]; omega))
  · exact absurd rfl c_1324
set_option maxRecDepth 100000 in
set_option maxHeartbeats 4000000 in
theorem lw_case_itemOf {l : Launch} {Z : Zt} {n : Nat} {f : Nat → Int32} {j : Nat} {S : St} {I : aH} {cells slots : Nat} (X : Fx Z l room_1 cL_law 4 RL (some .boolean) LQ) (hn : n ≤ 5120) (hj : 10 * j + 10 ≤ n) (L : LI n f j S I cells slots) (hk : ∀ S' I' cells' slots', LI n f (j + 1) S' I' cells' slots' → V Z 4 I' [some (.ref scr), some (.ref rO), some (.ref mO), some (.int (nI (10 * j)))] [] cells' slots' 1385) : V Z 4 I [some (.ref scr), some (.ref rO), some (.ref mO), some (.int (nI (10 * j)))] [] cells slots 1329 := by
  obtain ⟨Q, J, rfl, R, hM, hs, IS, hcc, hss⟩ := L
  have hs1 : ovc S J scr = some (.inl (0, aI n f)) := (ovc_k (k := 0) rfl).trans hs
  have hub := IS.ub
  have hj2 : j + 1 ≤ 512 := by omega
  have cIS := IS
  obtain ⟨iv, ct0, kd0, ow, fz, mw, ma, bt, rt, mo, kp, lo0, g0⟩ := IS
  have hs2 : ∀ S1, ovl S (ovc S1 J) scr = some (.inl (0, aI n f)) := fun S1 => (ovl_k (k := 0) (by decide)).trans ((ovc_k (k := 0) rfl).trans hs)
  have h60 := (ct_nn ct0.2.2.2.2.1 (by decide)).1
  have hQ : ∀ i, i < nn (S.1 32 0) → sm (S.1 44 i) 8 := fun i hi => (iv.2.1 i (by omega)).1
  refine V_aload_n X dL_law_1329 rfl rfl ?_
  refine V_aload_n X dL_law_1330 rfl rfl ?_
  refine V_iload_n X dL_law_1331 rfl ?_
  refine V_iconst (v := 1) X dL_law_1332 (by decide) ?_
  refine V_iadd X dL_law_1333 ?_
  apply V_iaload X dL_law_1334
  · exact hs1
  · exact sc_in (k := 1) hj hn (by decide)
  refine V_aload_n X dL_law_1335 rfl rfl ?_
  refine V_iload_n X dL_law_1336 rfl ?_
  refine V_iconst (v := 2) X dL_law_1337 (by decide) ?_
  refine V_iadd X dL_law_1338 ?_
  apply V_iaload X dL_law_1339
  · exact hs1
  · exact sc_in (k := 2) hj hn (by decide)
  apply V_callV2 X dL_law_1340 mk_L_135 iv_X8_itemOf (k_itemOf l ct0 R ow hQ bt)
  · exact at_root
  · exact rfl
  · exact Nat.le_of_ble_eq_true rfl
  · exact ⟨Nat.le_of_ble_eq_true rfl, Nat.le_of_ble_eq_true rfl⟩
  · exact ⟨by dsimp only [rmm, room_1]; omega, by dsimp only [rmm, room_1]; omega⟩
  rintro r I1 ⟨rfl, rfl⟩
  rw [(hM.ovc (S1 := _)).ov]
  refine V_aload_n X dL_law_1343 rfl rfl ?_
  refine V_aload_n X dL_law_1344 rfl rfl ?_
  refine V_iload_n X dL_law_1345 rfl ?_
  refine V_iconst (v := 1) X dL_law_1346 (by decide) ?_
  refine V_iadd X dL_law_1347 ?_
  apply V_iaload X dL_law_1348
  · exact hs2 _
  · exact sc_in (k := 1) hj hn (by decide)
  refine V_aload_n X dL_law_1349 rfl rfl ?_
  refine V_iload_n X dL_law_1350 rfl ?_
  refine V_iconst (v := 2) X dL_law_1351 (by decide) ?_
  refine V_iadd X dL_law_1352 ?_
  apply V_iaload X dL_law_1353
  · exact hs2 _
  · exact sc_in (k := 2) hj hn (by decide)
  apply V_callV2 X dL_law_1354 mk_L_138 iv_X9_itemOf (m_itemOf l ct0.2.2.2.2.1)
  · exact ovl_o
  · exact rfl
  · exact Nat.le_of_ble_eq_true rfl
  · exact ⟨Nat.le_of_ble_eq_true rfl, Nat.le_of_ble_eq_true rfl⟩
  · exact ⟨by dsimp only [rmm, room_1]; omega, by dsimp only [rmm, room_1]; omega⟩
  rintro r I1 ⟨rfl, rfl⟩
  refine V_icmp_eq X dL_law_1357 1385 (by decide) (fun c_1357 => ?_) (fun c_1357 => ?_)
  · exact hk _ _ _ _ (LI.nx R FJ.rf hs (up1 cIS hj2) (Nat.le_refl _) hcc hss (by dsimp only [rmm]; omega) (by dsimp only [rmm]; omega))
  · exact absurd rfl c_1357
set_option maxRecDepth 100000 in
set_option maxHeartbeats 4000000 in
theorem lw_case_stat {l : Launch} {Z : Zt} {n : Nat} {f : Nat → Int32} {j : Nat} {S : St} {I : aH} {cells slots : Nat} (X : Fx Z l room_1 cL_law 4 RL (some .boolean) LQ) (hn : n ≤ 5120) (hj : 10 * j + 10 ≤ n) (L : LI n f j S I cells slots) (hk : ∀ S' I' cells' slots', LI n f (j + 1) S' I' cells' slots' → V Z 4 I' [some (.ref scr), some (.ref rO), some (.ref mO), some (.int (nI (10 * j)))] [] cells' slots' 1385) : V Z 4 I [some (.ref scr), some (.ref rO), some (.ref mO), some (.int (nI (10 * j)))] [] cells slots 1362 := by
  obtain ⟨Q, J, rfl, R, hM, hs, IS, hcc, hss⟩ := L
  have hs1 : ovc S J scr = some (.inl (0, aI n f)) := (ovc_k (k := 0) rfl).trans hs
  have hub := IS.ub
  have hj2 : j + 1 ≤ 512 := by omega
  have cIS := IS
  obtain ⟨iv, ct0, kd0, ow, fz, mw, ma, bt, rt, mo, kp, lo0, g0⟩ := IS
  have hs2 : ∀ S1, ovl S (ovc S1 J) scr = some (.inl (0, aI n f)) := fun S1 => (ovl_k (k := 0) (by decide)).trans ((ovc_k (k := 0) rfl).trans hs)
  refine V_aload_n X dL_law_1362 rfl rfl ?_
  refine V_aload_n X dL_law_1363 rfl rfl ?_
  refine V_iload_n X dL_law_1364 rfl ?_
  refine V_iconst (v := 1) X dL_law_1365 (by decide) ?_
  refine V_iadd X dL_law_1366 ?_
  apply V_iaload X dL_law_1367
  · exact hs1
  · exact sc_in (k := 1) hj hn (by decide)
  apply V_callV1 X dL_law_1368 mk_L_139 iv_X8_status (k_stat l ct0 R)
  · exact at_root
  · exact rfl
  · exact Nat.le_of_ble_eq_true rfl
  · exact ⟨Nat.le_of_ble_eq_true rfl, Nat.le_of_ble_eq_true rfl⟩
  · exact ⟨by dsimp only [rmm, room_1]; omega, by dsimp only [rmm, room_1]; omega⟩
  rintro r I1 ⟨rfl, rfl⟩
  rw [(hM.ovc (S1 := _)).ov]
  refine V_aload_n X dL_law_1371 rfl rfl ?_
  refine V_aload_n X dL_law_1372 rfl rfl ?_
  refine V_iload_n X dL_law_1373 rfl ?_
  refine V_iconst (v := 1) X dL_law_1374 (by decide) ?_
  refine V_iadd X dL_law_1375 ?_
  apply V_iaload X dL_law_1376
  · exact hs2 _
  · exact sc_in (k := 1) hj hn (by decide)
  apply V_callV1 X dL_law_1377 mk_L_142 iv_X9_status (m_stat l ct0.2.2.1 ct0.2.2.2.1 ct0.2.2.2.2.1)
  · exact ovl_o
  · exact rfl
  · exact Nat.le_of_ble_eq_true rfl
  · exact ⟨Nat.le_of_ble_eq_true rfl, Nat.le_of_ble_eq_true rfl⟩
  · exact ⟨by dsimp only [rmm, room_1]; omega, by dsimp only [rmm, room_1]; omega⟩
  rintro r I1 ⟨rfl, rfl⟩
  refine V_icmp_eq X dL_law_1380 1385 (by decide) (fun c_1380 => ?_) (fun c_1380 => ?_)
  · exact hk _ _ _ _ (LI.nx R FJ.rf hs (up1 cIS hj2) (Nat.le_refl _) hcc hss (by dsimp only [rmm]; omega) (by dsimp only [rmm]; omega))
  · exact absurd rfl c_1380
