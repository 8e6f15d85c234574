/-! publish -/
theorem lpa_keep {S : St} {s a : Int32} : ∀ (d x : Nat), 0 ≤ lpa (mr1 S s) x a → lpa (mr1 S s) (x + d) a = lpa (mr1 S s) x a
  | 0, _, _ => rfl
  | d + 1, x, h => by
    have ih := lpa_keep d x h
    rw [show x + (d + 1) = (x + d) + 1 by omega, lpa, ih, mr1, if_pos h]
set_option maxRecDepth 100000 in
set_option maxHeartbeats 4000000 in
theorem pub_l1 {l : Launch} {Z : Zt} {S T : St} {J : aH} {s b n : Int32} {N : Nat} (X : Fx Z l (rmm 2 0 0 60) cX9_publish 9 RX9 (some .int) (fun r I' => r = some (.int (op_publish S s b n).2) ∧ I' = ovl (op_publish S s b n).1 J)) (hN : N ≤ 20) (e15 : T.1 15 0 = nI N) {o7 o8 : Option Value} (kk : ∀ acc : Int32, ((¬ 0 ≤ acc) ↔ ∀ j, j < N → ¬ sbP T s j) → V Z 9 (ovl T J) [some (.ref mO), some (.int s), some (.int b), some (.int n), some (.int 0), some (.int acc), some (.int (nI N)), o7, o8] [] 0 0 68) : ∀ (m x : Nat) (acc : Int32), N - x < m → x ≤ N → ((¬ 0 ≤ acc) ↔ ∀ j, j < x → ¬ sbP T s j) → V Z 9 (ovl T J) [some (.ref mO), some (.int s), some (.int b), some (.int n), some (.int 0), some (.int acc), some (.int (nI x)), o7, o8] [] 0 0 13
  | 0, _, _, h, _, _ => absurd h (Nat.not_lt_zero _)
  | m + 1, x, acc, hm, hx, ha => by
    refine V_iload X dX9_publish_13 rfl ?_
    refine V_aload_n X dX9_publish_15 rfl rfl ?_
    refine M_getiE (nI N) X dX9_publish_16 fk_X9_224 (by decide) rfl (e15) ?_
    refine V_icmp_ge X dX9_publish_19 68 (by decide) (fun c_19 => ?_) (fun c_19 => ?_)
    · have hx2 : x = N := by
        rcases Nat.lt_or_ge x (N) with z | z
        · exact absurd c_19 (nI_ge z (by omega))
        · omega
      subst hx2
      exact kk acc ha
    have hlt : x < N := by
      rcases Nat.lt_or_ge x (N) with z | z
      · exact z
      · exact absurd (nI_le z (by omega)) c_19
    refine V_iload X dX9_publish_22 rfl ?_
    refine V_if_ne X dX9_publish_24 68 (by decide) (fun c_24 => ?_) (fun c_24 => ?_)
    · exact absurd rfl c_24
    refine V_iload X dX9_publish_27 rfl ?_
    refine V_if_ge X dX9_publish_29 58 (by decide) (fun c_29 => ?_) (fun c_29 => ?_)
    · refine V_iload X dX9_publish_58 rfl ?_
      refine V_istore X dX9_publish_60 (by decide) rfl ?_
      refine V_iinc X dX9_publish_62 rfl (by decide) rfl (nI (x + 1)) (nI_1 x) ?_
      refine V_goto X dX9_publish_65 13 (by decide) ?_
      exact pub_l1 X hN e15 kk m (x + 1) acc (by omega) (by omega) ⟨fun q => absurd c_29 q, fun q => ha.mpr (fun j hj => q j (by omega))⟩
    refine V_aload_n X dX9_publish_32 rfl rfl ?_
    refine M_geta X dX9_publish_33 fk_X9_44 (by decide) rfl ?_
    refine V_iload X dX9_publish_36 rfl ?_
    refine M_zaldN X dX9_publish_38 (by decide) rfl (by omega) (by decide) ?_
    refine V_if_eq X dX9_publish_39 58 (by decide) (fun c_39 => ?_) (fun c_39 => ?_)
    · refine V_iload X dX9_publish_58 rfl ?_
      refine V_istore X dX9_publish_60 (by decide) rfl ?_
      refine V_iinc X dX9_publish_62 rfl (by decide) rfl (nI (x + 1)) (nI_1 x) ?_
      refine V_goto X dX9_publish_65 13 (by decide) ?_
      exact pub_l1 X hN e15 kk m (x + 1) acc (by omega) (by omega) ⟨fun q => upto (ha.mp q) (fun z => z.1 c_39), fun q => ha.mpr (fun j hj => q j (by omega))⟩
    refine V_aload_n X dX9_publish_42 rfl rfl ?_
    refine M_geta X dX9_publish_43 fk_X9_48 (by decide) rfl ?_
    refine V_iload X dX9_publish_46 rfl ?_
    refine M_ialdN X dX9_publish_48 (by decide) rfl (by omega) (by decide) ?_
    refine V_iload_n X dX9_publish_49 rfl ?_
    refine V_icmp_ne X dX9_publish_50 58 (by decide) (fun c_50 => ?_) (fun c_50 => ?_)
    · refine V_iload X dX9_publish_58 rfl ?_
      refine V_istore X dX9_publish_60 (by decide) rfl ?_
      refine V_iinc X dX9_publish_62 rfl (by decide) rfl (nI (x + 1)) (nI_1 x) ?_
      refine V_goto X dX9_publish_65 13 (by decide) ?_
      exact pub_l1 X hN e15 kk m (x + 1) acc (by omega) (by omega) ⟨fun q => upto (ha.mp q) (fun z => c_50 z.2), fun q => ha.mpr (fun j hj => q j (by omega))⟩
    refine V_iload X dX9_publish_53 rfl ?_
    refine V_goto X dX9_publish_55 60 (by decide) ?_
    refine V_istore X dX9_publish_60 (by decide) rfl ?_
    refine V_iinc X dX9_publish_62 rfl (by decide) rfl (nI (x + 1)) (nI_1 x) ?_
    refine V_goto X dX9_publish_65 13 (by decide) ?_
    exact pub_l1 X hN e15 kk m (x + 1) (nI x) (by omega) (by omega) ⟨fun q => absurd (nI_pos' (by omega)) q, fun q => absurd ⟨c_39, c_50⟩ (q x (by omega))⟩
set_option maxRecDepth 100000 in
set_option maxHeartbeats 4000000 in
theorem pub_l3 {l : Launch} {Z : Zt} {S T : St} {J : aH} {s b n : Int32} {N : Nat} (X : Fx Z l (rmm 2 0 0 60) cX9_publish 9 RX9 (some .int) (fun r I' => r = some (.int (op_publish S s b n).2) ∧ I' = ovl (op_publish S s b n).1 J)) (hN : N ≤ 20) (e15 : T.1 15 0 = nI N) {c : Nat} (hI : Iv c T) {a0 : Int32} {r4 r5 : Int32} {o8 : Option Value} (ha0 : ao a0 N) (eo : op_publish S s b n = if 0 ≤ lpa (mr1 T s) N a0 then (makeS T (nn (lpa (mr1 T s) N a0)), 1) else (T, 0)) : ∀ (m x : Nat) (acc : Int32), N - x < m → x ≤ N → acc = lpa (mr1 T s) x a0 → V Z 9 (ovl T J) [some (.ref mO), some (.int s), some (.int b), some (.int n), some (.int r4), some (.int r5), some (.int acc), some (.int (nI x)), o8] [] 0 0 247
  | 0, _, _, h, _, _ => absurd h (Nat.not_lt_zero _)
  | m + 1, x, acc, hm, hx, ha => by
    have hend : acc = lpa (mr1 T s) N a0 → V Z 9 (ovl T J) [some (.ref mO), some (.int s), some (.int b), some (.int n), some (.int r4), some (.int r5), some (.int acc), some (.int (nI x)), o8] [] 0 0 316 := by
      intro hac
      have hao := mr1_ao (S := T) (s := s) ha0 N (Nat.le_refl _)
      rw [← hac] at hao eo
      refine V_iload X dX9_publish_316 rfl ?_
      refine V_if_ge X dX9_publish_318 323 (by decide) (fun c_318 => ?_) (fun c_318 => ?_)
      · obtain ⟨k, hk, ek⟩ := ao_0 hao (by omega) c_318
        rw [if_pos c_318] at eo
        subst ek
        refine V_aload_n X dX9_publish_323 rfl rfl ?_
        refine V_iload X dX9_publish_324 rfl ?_
        apply V_callV1 X dX9_publish_326 mk_X9_239 iv_X9_make (c_make l hI (by omega))
        · first | assumption | exact hu_s | exact (hu_n (by first | exact kd_nk (by decide) | exact kd_ni (by omega) | exact kd_ng (by omega) | assumption | exact Ne.symm (by assumption))).trans (by first | assumption | exact hu_s | exact (hu_n (by first | exact kd_nk (by decide) | exact kd_ni (by omega) | exact kd_ng (by omega) | assumption | exact Ne.symm (by assumption))).trans (by first | assumption | exact hu_s | exact (hu_n (by first | exact kd_nk (by decide) | exact kd_ni (by omega) | exact kd_ng (by omega) | assumption | exact Ne.symm (by assumption))).trans (by first | assumption | exact hu_s)))
        · exact rfl
        · exact Nat.le_of_ble_eq_true rfl
        · exact ⟨Nat.le_of_ble_eq_true rfl, Nat.le_of_ble_eq_true rfl⟩
        · exact ⟨by dsimp only [rmm]; omega, by dsimp only [rmm]; omega⟩
        rintro r I1 ⟨rfl, rfl⟩
        refine V_iconst (v := 1) X dX9_publish_329 (by decide) ?_
        refine V_iret X dX9_publish_330 ?_ ?_ ?_ ?_
        · exact rfl
        · dsimp only [rmm]; omega
        · dsimp only [rmm]; omega
        rw [eo, nnI (by omega)]; exact ⟨rfl, rfl⟩
      rw [if_neg c_318] at eo
      refine V_iconst (v := 0) X dX9_publish_321 (by decide) ?_
      refine V_iret X dX9_publish_322 ?_ ?_ ?_ ?_
      · exact rfl
      · dsimp only [rmm]; omega
      · dsimp only [rmm]; omega
      rw [eo]; exact ⟨rfl, rfl⟩
    refine V_iload X dX9_publish_247 rfl ?_
    refine V_aload_n X dX9_publish_249 rfl rfl ?_
    refine M_getiE (nI N) X dX9_publish_250 fk_X9_224 (by decide) rfl (e15) ?_
    refine V_icmp_ge X dX9_publish_253 316 (by decide) (fun c_253 => ?_) (fun c_253 => ?_)
    · have hx2 : x = N := by
        rcases Nat.lt_or_ge x (N) with z | z
        · exact absurd c_253 (nI_ge z (by omega))
        · omega
      exact hend (by rw [ha, hx2])
    have hlt : x < N := by
      rcases Nat.lt_or_ge x (N) with z | z
      · exact z
      · exact absurd (nI_le z (by omega)) c_253
    refine V_iload X dX9_publish_256 rfl ?_
    refine V_if_ge X dX9_publish_258 316 (by decide) (fun c_258 => ?_) (fun c_258 => ?_)
    · exact hend (by rw [ha]; have := lpa_keep (S := T) (s := s) (a := a0) (N - x) x (by rw [← ha]; exact c_258); rw [show x + (N - x) = N by omega] at this; exact this.symm)
    refine V_aload_n X dX9_publish_261 rfl rfl ?_
    refine M_geta X dX9_publish_262 fk_X9_44 (by decide) rfl ?_
    refine V_iload X dX9_publish_265 rfl ?_
    refine M_zaldN X dX9_publish_267 (by decide) rfl (by omega) (by decide) ?_
    refine V_if_eq X dX9_publish_268 306 (by decide) (fun c_268 => ?_) (fun c_268 => ?_)
    · refine V_iload X dX9_publish_306 rfl ?_
      refine V_istore X dX9_publish_308 (by decide) rfl ?_
      refine V_iinc X dX9_publish_310 rfl (by decide) rfl (nI (x + 1)) (nI_1 x) ?_
      refine V_goto X dX9_publish_313 247 (by decide) ?_
      refine pub_l3 X hN e15 hI ha0 eo m (x + 1) _ (by omega) (by omega) ?_
      rw [lpa, ← ha, mr1, if_neg c_258, if_pos c_268]
    refine V_aload_n X dX9_publish_271 rfl rfl ?_
    refine M_geta X dX9_publish_272 fk_X9_48 (by decide) rfl ?_
    refine V_iload X dX9_publish_275 rfl ?_
    refine M_ialdN X dX9_publish_277 (by decide) rfl (by omega) (by decide) ?_
    refine V_iload_n X dX9_publish_278 rfl ?_
    refine V_icmp_ne X dX9_publish_279 306 (by decide) (fun c_279 => ?_) (fun c_279 => ?_)
    · refine V_iload X dX9_publish_306 rfl ?_
      refine V_istore X dX9_publish_308 (by decide) rfl ?_
      refine V_iinc X dX9_publish_310 rfl (by decide) rfl (nI (x + 1)) (nI_1 x) ?_
      refine V_goto X dX9_publish_313 247 (by decide) ?_
      refine pub_l3 X hN e15 hI ha0 eo m (x + 1) _ (by omega) (by omega) ?_
      rw [lpa, ← ha, mr1, if_neg c_258, if_neg c_268, if_neg c_279]
    refine V_aload_n X dX9_publish_282 rfl rfl ?_
    refine M_geta X dX9_publish_283 fk_X9_87 (by decide) rfl ?_
    refine V_iload X dX9_publish_286 rfl ?_
    refine M_zaldN X dX9_publish_288 (by decide) rfl (by omega) (by decide) ?_
    refine V_if_eq X dX9_publish_289 306 (by decide) (fun c_289 => ?_) (fun c_289 => ?_)
    · refine V_iload X dX9_publish_306 rfl ?_
      refine V_istore X dX9_publish_308 (by decide) rfl ?_
      refine V_iinc X dX9_publish_310 rfl (by decide) rfl (nI (x + 1)) (nI_1 x) ?_
      refine V_goto X dX9_publish_313 247 (by decide) ?_
      refine pub_l3 X hN e15 hI ha0 eo m (x + 1) _ (by omega) (by omega) ?_
      rw [lpa, ← ha, mr1, if_neg c_258, if_neg c_268, if_pos c_279, if_pos c_289]
    refine V_aload_n X dX9_publish_292 rfl rfl ?_
    refine V_iload X dX9_publish_293 rfl ?_
    apply V_callV1 X dX9_publish_295 mk_X9_208 iv_X9_isReady (c_ready l hI.1.2.2.1 (vp_in_nI2 (by omega) (by omega)))
    · first | assumption | exact hu_s | exact (hu_n (by first | exact kd_nk (by decide) | exact kd_ni (by omega) | exact kd_ng (by omega) | assumption | exact Ne.symm (by assumption))).trans (by first | assumption | exact hu_s | exact (hu_n (by first | exact kd_nk (by decide) | exact kd_ni (by omega) | exact kd_ng (by omega) | assumption | exact Ne.symm (by assumption))).trans (by first | assumption | exact hu_s | exact (hu_n (by first | exact kd_nk (by decide) | exact kd_ni (by omega) | exact kd_ng (by omega) | assumption | exact Ne.symm (by assumption))).trans (by first | assumption | exact hu_s)))
    · exact rfl
    · exact Nat.le_of_ble_eq_true rfl
    · exact ⟨Nat.le_of_ble_eq_true rfl, Nat.le_of_ble_eq_true rfl⟩
    · exact ⟨by dsimp only [rmm]; omega, by dsimp only [rmm]; omega⟩
    rintro r I1 ⟨rfl, rfl⟩
    refine V_if_eq X dX9_publish_298 306 (by decide) (fun c_298 => ?_) (fun c_298 => ?_)
    · have h_298 := bz_f c_298
      refine V_iload X dX9_publish_306 rfl ?_
      refine V_istore X dX9_publish_308 (by decide) rfl ?_
      refine V_iinc X dX9_publish_310 rfl (by decide) rfl (nI (x + 1)) (nI_1 x) ?_
      refine V_goto X dX9_publish_313 247 (by decide) ?_
      refine pub_l3 X hN e15 hI ha0 eo m (x + 1) _ (by omega) (by omega) ?_
      rw [lpa, ← ha, mr1, if_neg c_258, if_neg c_268, if_pos c_279, if_neg c_289, if_neg h_298]
    have h_298 := bz_t c_298
    refine V_iload X dX9_publish_301 rfl ?_
    refine V_goto X dX9_publish_303 308 (by decide) ?_
    refine V_istore X dX9_publish_308 (by decide) rfl ?_
    refine V_iinc X dX9_publish_310 rfl (by decide) rfl (nI (x + 1)) (nI_1 x) ?_
    refine V_goto X dX9_publish_313 247 (by decide) ?_
    refine pub_l3 X hN e15 hI ha0 eo m (x + 1) _ (by omega) (by omega) ?_
    rw [lpa, ← ha, mr1, if_neg c_258, if_neg c_268, if_pos c_279, if_neg c_289, if_pos h_298]
set_option maxRecDepth 100000 in
set_option maxHeartbeats 4000000 in
theorem pub_l2 {l : Launch} {Z : Zt} {S T : St} {J : aH} {s b n : Int32} {N : Nat} (X : Fx Z l (rmm 2 0 0 60) cX9_publish 9 RX9 (some .int) (fun r I' => r = some (.int (op_publish S s b n).2) ∧ I' = ovl (op_publish S s b n).1 J)) (hN : N ≤ 20) (e15 : T.1 15 0 = nI N) {c : Nat} (hI : Iv c T) {r4 r5 : Int32} (eo : op_publish S s b n = if 0 ≤ bestS T s then (makeS T (nn (bestS T s)), 1) else (T, 0)) : ∀ (m x : Nat) (acc : Int32) (o8 : Option Value), N - x < m → x ≤ N → acc = lpa (lt1 T s) x (-1) → V Z 9 (ovl T J) [some (.ref mO), some (.int s), some (.int b), some (.int n), some (.int r4), some (.int r5), some (.int acc), some (.int (nI x)), o8] [] 0 0 155
  | 0, _, _, _, h, _, _ => absurd h (Nat.not_lt_zero _)
  | m + 1, x, acc, o8, hm, hx, ha => by
    have hao := lt1_ao (S := T) (s := s) x
    rw [← ha] at hao
    refine V_iload X dX9_publish_155 rfl ?_
    refine V_aload_n X dX9_publish_157 rfl rfl ?_
    refine M_getiE (nI N) X dX9_publish_158 fk_X9_224 (by decide) rfl (e15) ?_
    refine V_icmp_ge X dX9_publish_161 244 (by decide) (fun c_161 => ?_) (fun c_161 => ?_)
    · have hx2 : x = N := by
        rcases Nat.lt_or_ge x (N) with z | z
        · exact absurd c_161 (nI_ge z (by omega))
        · omega
      refine V_iconst (v := 0) X dX9_publish_244 (by decide) ?_
      refine V_istore X dX9_publish_245 (by decide) rfl ?_
      subst hx2
      refine pub_l3 X hN e15 hI hao ?_ (x + 1) 0 _ (by omega) (Nat.zero_le _) rfl
      rw [eo]
      unfold bestS
      rw [e15, nnI (by omega), ← ha]
    have hlt : x < N := by
      rcases Nat.lt_or_ge x (N) with z | z
      · exact z
      · exact absurd (nI_le z (by omega)) c_161
    refine V_aload_n X dX9_publish_164 rfl rfl ?_
    refine M_geta X dX9_publish_165 fk_X9_44 (by decide) rfl ?_
    refine V_iload X dX9_publish_168 rfl ?_
    refine M_zaldN X dX9_publish_170 (by decide) rfl (by omega) (by decide) ?_
    refine V_if_eq X dX9_publish_171 199 (by decide) (fun c_171 => ?_) (fun c_171 => ?_)
    · refine V_iconst (v := 0) X dX9_publish_199 (by decide) ?_
      refine V_istore X dX9_publish_200 (by decide) rfl ?_
      refine V_iload X dX9_publish_202 rfl ?_
      refine V_if_eq X dX9_publish_204 234 (by decide) (fun c_204 => ?_) (fun c_204 => ?_)
      · refine V_iload X dX9_publish_234 rfl ?_
        refine V_istore X dX9_publish_236 (by decide) rfl ?_
        refine V_iinc X dX9_publish_238 rfl (by decide) rfl (nI (x + 1)) (nI_1 x) ?_
        refine V_goto X dX9_publish_241 155 (by decide) ?_
        refine pub_l2 X hN e15 hI eo m (x + 1) _ _ (by omega) (by omega) ?_
        rw [lpa, ← ha, lt1, if_pos c_171]
      · exact absurd c_204 (by decide)
    refine V_aload_n X dX9_publish_174 rfl rfl ?_
    refine M_geta X dX9_publish_175 fk_X9_48 (by decide) rfl ?_
    refine V_iload X dX9_publish_178 rfl ?_
    refine M_ialdN X dX9_publish_180 (by decide) rfl (by omega) (by decide) ?_
    refine V_iload_n X dX9_publish_181 rfl ?_
    refine V_icmp_ne X dX9_publish_182 199 (by decide) (fun c_182 => ?_) (fun c_182 => ?_)
    · refine V_iconst (v := 0) X dX9_publish_199 (by decide) ?_
      refine V_istore X dX9_publish_200 (by decide) rfl ?_
      refine V_iload X dX9_publish_202 rfl ?_
      refine V_if_eq X dX9_publish_204 234 (by decide) (fun c_204 => ?_) (fun c_204 => ?_)
      · refine V_iload X dX9_publish_234 rfl ?_
        refine V_istore X dX9_publish_236 (by decide) rfl ?_
        refine V_iinc X dX9_publish_238 rfl (by decide) rfl (nI (x + 1)) (nI_1 x) ?_
        refine V_goto X dX9_publish_241 155 (by decide) ?_
        refine pub_l2 X hN e15 hI eo m (x + 1) _ _ (by omega) (by omega) ?_
        rw [lpa, ← ha, lt1, if_neg c_171, if_neg c_182]
      · exact absurd c_204 (by decide)
    refine V_aload_n X dX9_publish_185 rfl rfl ?_
    refine M_geta X dX9_publish_186 fk_X9_81 (by decide) rfl ?_
    refine V_iload X dX9_publish_189 rfl ?_
    refine M_zaldN X dX9_publish_191 (by decide) rfl (by omega) (by decide) ?_
    refine V_if_eq X dX9_publish_192 199 (by decide) (fun c_192 => ?_) (fun c_192 => ?_)
    · refine V_iconst (v := 0) X dX9_publish_199 (by decide) ?_
      refine V_istore X dX9_publish_200 (by decide) rfl ?_
      refine V_iload X dX9_publish_202 rfl ?_
      refine V_if_eq X dX9_publish_204 234 (by decide) (fun c_204 => ?_) (fun c_204 => ?_)
      · refine V_iload X dX9_publish_234 rfl ?_
        refine V_istore X dX9_publish_236 (by decide) rfl ?_
        refine V_iinc X dX9_publish_238 rfl (by decide) rfl (nI (x + 1)) (nI_1 x) ?_
        refine V_goto X dX9_publish_241 155 (by decide) ?_
        refine pub_l2 X hN e15 hI eo m (x + 1) _ _ (by omega) (by omega) ?_
        rw [lpa, ← ha, lt1, if_neg c_171, if_pos c_182, if_pos c_192]
      · exact absurd c_204 (by decide)
    refine V_iconst (v := 1) X dX9_publish_195 (by decide) ?_
    refine V_goto X dX9_publish_196 200 (by decide) ?_
    refine V_istore X dX9_publish_200 (by decide) rfl ?_
    refine V_iload X dX9_publish_202 rfl ?_
    refine V_if_eq X dX9_publish_204 234 (by decide) (fun c_204 => ?_) (fun c_204 => ?_)
    · exact absurd c_204 (by decide)
    refine V_iload X dX9_publish_207 rfl ?_
    refine V_if_lt X dX9_publish_209 229 (by decide) (fun c_209 => ?_) (fun c_209 => ?_)
    · refine V_iload X dX9_publish_229 rfl ?_
      refine V_goto X dX9_publish_231 236 (by decide) ?_
      refine V_istore X dX9_publish_236 (by decide) rfl ?_
      refine V_iinc X dX9_publish_238 rfl (by decide) rfl (nI (x + 1)) (nI_1 x) ?_
      refine V_goto X dX9_publish_241 155 (by decide) ?_
      refine pub_l2 X hN e15 hI eo m (x + 1) _ _ (by omega) (by omega) ?_
      rw [lpa, ← ha, lt1, if_neg c_171, if_pos c_182, if_neg c_192, if_pos c_209]
    obtain ⟨k, hk, ek⟩ := ao_lt hao (by omega) c_209
    refine V_aload_n X dX9_publish_212 rfl rfl ?_
    refine M_geta X dX9_publish_213 fk_X9_84 (by decide) rfl ?_
    refine V_iload X dX9_publish_216 rfl ?_
    refine M_ialdN X dX9_publish_218 (by decide) rfl (by omega) (by decide) ?_
    refine V_aload_n X dX9_publish_219 rfl rfl ?_
    refine M_geta X dX9_publish_220 fk_X9_84 (by decide) rfl ?_
    refine V_iload X dX9_publish_223 rfl ?_
    refine M_iald X dX9_publish_225 (by decide) rfl (by rw [ek]; exact vp_in_nI2 (by omega) (by omega)) ?_
    refine V_icmp_ge X dX9_publish_226 234 (by decide) (fun c_226 => ?_) (fun c_226 => ?_)
    · refine V_iload X dX9_publish_234 rfl ?_
      refine V_istore X dX9_publish_236 (by decide) rfl ?_
      refine V_iinc X dX9_publish_238 rfl (by decide) rfl (nI (x + 1)) (nI_1 x) ?_
      refine V_goto X dX9_publish_241 155 (by decide) ?_
      refine pub_l2 X hN e15 hI eo m (x + 1) _ _ (by omega) (by omega) ?_
      rw [lpa, ← ha, lt1, if_neg c_171, if_pos c_182, if_neg c_192, if_neg c_209, if_pos c_226]
    refine V_iload X dX9_publish_229 rfl ?_
    refine V_goto X dX9_publish_231 236 (by decide) ?_
    refine V_istore X dX9_publish_236 (by decide) rfl ?_
    refine V_iinc X dX9_publish_238 rfl (by decide) rfl (nI (x + 1)) (nI_1 x) ?_
    refine V_goto X dX9_publish_241 155 (by decide) ?_
    refine pub_l2 X hN e15 hI eo m (x + 1) _ _ (by omega) (by omega) ?_
    rw [lpa, ← ha, lt1, if_neg c_171, if_pos c_182, if_neg c_192, if_neg c_209, if_neg c_226]
theorem ackS_k {S : St} {s b n : Int32} {k i : Nat} (h : k ≠ 54) : (ackS S s b n).1.1 k i = S.1 k i := by
  unfold ackS
  split
  · rfl
  · split
    · split
      · exact pa_n _ _ h
      · rfl
    · rfl
theorem Iv.req1 {c : Nat} {S : St} {a : Nat} (ha : a < 12) (h : Iv c S) (hc : c + 1 ≤ 512) (h3 : nn (S.1 12 a) ≤ 3) : Iv (c + 1) (pa S 12 a (S.1 12 a + 1)) := by
  obtain ⟨⟨c1, c2, c3, c4⟩, h2, h3b, h4, h5, h6, h7⟩ := h
  have hk : ∀ {k j x}, k ≠ 12 → (pa S 12 a x).1 k j = S.1 k j := fun h => pa_n _ _ h
  have hi := sm_inc (h4 a ha).1 (by decide)
  have et : tot (pa S 12 a (S.1 12 a + 1)) = tot S + 1 := by
    have := sumN_upd (f := fun j => nn (S.1 12 j) + nn (S.1 13 j)) (g := fun j => nn ((pa S 12 a (S.1 12 a + 1)).1 12 j) + nn ((pa S 12 a (S.1 12 a + 1)).1 13 j)) (n := 12) ha (fun j hj => by rw [pa_i _ _ hj, hk (by decide)])
    simp only [pa_s, hk (show (13 : Nat) ≠ 12 by decide), hi.2] at this
    unfold tot
    simp only [hk (show (13 : Nat) ≠ 12 by decide)]
    omega
  have em : ml (pa S 12 a (S.1 12 a + 1)) = ml S := sumN_cong fun j _ => by rw [hk (by decide)]
  refine ⟨⟨ct_of (hk (by decide)) c1, ct_of (hk (by decide)) c2, ct_of (hk (by decide)) c3, ct_of (hk (by decide)) c4⟩, fun j hj => ?_, fun b hb => ?_, fun t ht => ?_, ?_, fun b hb => ?_, fun j hj => ?_⟩
  · unfold IvQ
    rw [hk (by decide), hk (by decide), hk (by decide), hk (by decide)]
    exact h2 j hj
  · rw [hk (by decide), hk (by decide)]; exact h3b b hb
  · rw [hk (k := 13) (by decide)]
    refine ⟨?_, (h4 t ht).2⟩
    by_cases e : t = a
    · subst e
      rw [pa_s]
      exact ⟨hi.1.1, by rw [hi.2]; omega⟩
    · rw [pa_i _ _ e]
      exact (h4 t ht).1
  · rw [em, hk (by decide), et]; exact ⟨by have := h5.1; omega, hc, h5.2.2⟩
  · rw [hk (by decide)] at hb ⊢; exact h6 b hb
  · rw [hk (by decide)] at hj; rw [hk (by decide), hk (by decide)]; exact h7 j hj
theorem Iv.ack {c : Nat} {S : St} {s b n : Int32} (h : Iv c S) : Iv c (ackS S s b n).1 := h.cong fun k hk i => ackS_k (fun e => by rw [e] at hk; exact absurd hk (by decide))
theorem ivPubA {c : Nat} {S : St} {a : Nat} {b n : Int32} (ha : a < 12) (h : Iv c S) (hc : c + 1 ≤ 512) (h4 : ¬ S.1 12 a = 4) : Iv (c + 1) (pubA S (nI a) b n) := by
  have hA : Iv c (pa (ackS S (nI a) b n).1 60 0 (ackS S (nI a) b n).2) := h.ack.put rfl
  have e12 : (pa (ackS S (nI a) b n).1 60 0 (ackS S (nI a) b n).2).1 12 a = S.1 12 a := (pa_n _ _ (by decide)).trans (ackS_k (by decide))
  have h3 : nn (S.1 12 a) ≤ 3 := by
    have hs := (h.2.2.2.1 a ha).1
    have h2 := hs.2
    rcases Nat.lt_or_ge (nn (S.1 12 a)) 4 with q | q
    · omega
    · exact absurd (by rw [hs.1, show nn (S.1 12 a) = 4 by omega]; rfl) h4
  have := hA.req1 ha hc (by rw [e12]; exact h3)
  unfold pubA
  dsimp only
  rw [nnI (by omega)]
  exact this
set_option maxRecDepth 100000 in
set_option maxHeartbeats 4000000 in
theorem m_publish (l : Launch) {S : St} {J : aH} {s b n : Int32} {c : Nat} (hI : Iv c S) (hc : c + 1 ≤ 512) : AM l yX9_publish cX9_publish 9 (some .int) (rmm 2 0 0 60) [.ref mO, .int s, .int b, .int n] (ovl S J) (fun r I' => r = some (.int (op_publish S s b n).2) ∧ I' = ovl (op_publish S s b n).1 J) := by
  have hE := hI.ent (s := s)
  refine AM_of RX9 (by decide) rfl [some (.ref mO), some (.int s), some (.int b), some (.int n), none, none, none, none, none] rfl (Nat.le_of_ble_eq_true rfl) (fun Z X hNm => ?_)
  refine V_aload_n X dX9_publish_0 rfl rfl ?_
  refine V_iload_n X dX9_publish_1 rfl ?_
  apply V_callV1 X dX9_publish_2 mk_X9_260 iv_X9_lacks (c_lacks l hI.1.1)
  · first | assumption | exact hu_s | exact (hu_n (by first | exact kd_nk (by decide) | exact kd_ni (by omega) | exact kd_ng (by omega) | assumption | exact Ne.symm (by assumption))).trans (by first | assumption | exact hu_s | exact (hu_n (by first | exact kd_nk (by decide) | exact kd_ni (by omega) | exact kd_ng (by omega) | assumption | exact Ne.symm (by assumption))).trans (by first | assumption | exact hu_s | exact (hu_n (by first | exact kd_nk (by decide) | exact kd_ni (by omega) | exact kd_ng (by omega) | assumption | exact Ne.symm (by assumption))).trans (by first | assumption | exact hu_s)))
  · exact rfl
  · exact Nat.le_of_ble_eq_true rfl
  · exact ⟨Nat.le_of_ble_eq_true rfl, Nat.le_of_ble_eq_true rfl⟩
  · exact ⟨by dsimp only [rmm]; omega, by dsimp only [rmm]; omega⟩
  rintro r I1 ⟨rfl, rfl⟩
  refine V_istore X dX9_publish_5 (by decide) rfl ?_
  refine V_iconst (v := (-1)) X dX9_publish_7 (by decide) ?_
  refine V_istore X dX9_publish_8 (by decide) rfl ?_
  refine V_iconst (v := 0) X dX9_publish_10 (by decide) ?_
  refine V_istore X dX9_publish_11 (by decide) rfl ?_
  obtain ⟨N, hN, e15⟩ := id hE.1.2.1
  by_cases h0 : 0 ≤ lackS S s
  · rw [lackS_nn h0]
    refine pub_l1 X hN e15 (fun acc hacc => ?_) (N + 1) 0 (-1) (by omega) (Nat.zero_le _) ⟨fun _ j hj => absurd hj (Nat.not_lt_zero _), fun _ => by decide⟩
    have hB : hasB (entS S s) s ↔ 0 ≤ acc := by
      have hf := frs_spec (sbB (entS S s) s) (nn ((entS S s).1 15 0))
      have en : nn ((entS S s).1 15 0) = N := by rw [e15]; exact nnI (by omega)
      constructor
      · intro q
        rcases Decidable.em (0 ≤ acc) with z | z
        · exact z
        · exact absurd (sbB_iff.mp (hf.2.2 q)) (hacc.mp z _ (by have : frs (sbB (entS S s) s) (nn ((entS S s).1 15 0)) < nn ((entS S s).1 15 0) := q; omega))
      · intro z
        rcases Nat.lt_or_ge (frs (sbB (entS S s) s) (nn ((entS S s).1 15 0))) (nn ((entS S s).1 15 0)) with q | q
        · exact q
        · exact absurd z (hacc.mpr (fun j hj y => hf.2.1 j (by omega) (sbB_iff.mpr y)))
    refine V_iload X dX9_publish_68 rfl ?_
    refine V_if_ge X dX9_publish_70 78 (by decide) (fun c_70 => ?_) (fun c_70 => ?_)
    · refine V_iload X dX9_publish_78 rfl ?_
      refine V_if_ge X dX9_publish_80 88 (by decide) (fun c_80 => ?_) (fun c_80 => ?_)
      · refine V_aload_n X dX9_publish_88 rfl rfl ?_
        refine M_geta X dX9_publish_89 fk_X9_35 (by decide) rfl ?_
        refine V_iload_n X dX9_publish_92 rfl ?_
        refine M_iald X dX9_publish_93 (by decide) rfl (ses_in hI.1.1 (lack_ses h0)) ?_
        refine V_iconst (v := 4) X dX9_publish_94 (by decide) ?_
        refine V_icmp_eq X dX9_publish_95 108 (by decide) (fun c_95 => ?_) (fun c_95 => ?_)
        · refine V_bipush (v := (-8)) X dX9_publish_108 (by decide) ?_
          refine V_goto X dX9_publish_110 114 (by decide) ?_
          refine V_istore X dX9_publish_114 (by decide) rfl ?_
          refine V_iload X dX9_publish_116 rfl ?_
          refine V_if_ge X dX9_publish_118 128 (by decide) (fun c_118 => ?_) (fun c_118 => ?_)
          · exact absurd c_118 (by decide)
          refine V_aload_n X dX9_publish_121 rfl rfl ?_
          refine V_iload X dX9_publish_122 rfl ?_
          apply V_callV1 X dX9_publish_124 mk_X9_175 iv_X9_refuse (c_refuse9 l (x := -8) (by unfold vp_in; decide))
          · first | assumption | exact hu_s | exact (hu_n (by first | exact kd_nk (by decide) | exact kd_ni (by omega) | exact kd_ng (by omega) | assumption | exact Ne.symm (by assumption))).trans (by first | assumption | exact hu_s | exact (hu_n (by first | exact kd_nk (by decide) | exact kd_ni (by omega) | exact kd_ng (by omega) | assumption | exact Ne.symm (by assumption))).trans (by first | assumption | exact hu_s | exact (hu_n (by first | exact kd_nk (by decide) | exact kd_ni (by omega) | exact kd_ng (by omega) | assumption | exact Ne.symm (by assumption))).trans (by first | assumption | exact hu_s)))
          · exact rfl
          · exact Nat.le_of_ble_eq_true rfl
          · exact ⟨Nat.le_of_ble_eq_true rfl, Nat.le_of_ble_eq_true rfl⟩
          · exact ⟨by dsimp only [rmm]; omega, by dsimp only [rmm]; omega⟩
          rintro r I1 ⟨rfl, rfl⟩
          refine V_iret X dX9_publish_127 ?_ ?_ ?_ ?_
          · exact rfl
          · dsimp only [rmm]; omega
          · dsimp only [rmm]; omega
          refine ⟨?_, ?_⟩ <;> rw [op_publish, if_pos h0, if_pos (hB.mpr c_80), if_pos c_95]
        refine V_aload_n X dX9_publish_98 rfl rfl ?_
        refine M_geti X dX9_publish_99 fk_X9_205 (by decide) rfl ?_
        refine V_sipush (v := 900) X dX9_publish_102 (by decide) ?_
        refine V_icmp_ne X dX9_publish_105 113 (by decide) (fun c_105 => ?_) (fun c_105 => ?_)
        · refine V_iconst (v := 0) X dX9_publish_113 (by decide) ?_
          refine V_istore X dX9_publish_114 (by decide) rfl ?_
          refine V_iload X dX9_publish_116 rfl ?_
          refine V_if_ge X dX9_publish_118 128 (by decide) (fun c_118 => ?_) (fun c_118 => ?_)
          · refine V_aload_n X dX9_publish_128 rfl rfl ?_
            refine V_aload_n X dX9_publish_129 rfl rfl ?_
            refine V_iload_n X dX9_publish_130 rfl ?_
            refine V_iload_n X dX9_publish_131 rfl ?_
            refine V_iload_n X dX9_publish_132 rfl ?_
            apply V_callV3 X dX9_publish_133 mk_X9_295 iv_X9_acknowledge (c_ack l hE)
            · first | assumption | exact hu_s | exact (hu_n (by first | exact kd_nk (by decide) | exact kd_ni (by omega) | exact kd_ng (by omega) | assumption | exact Ne.symm (by assumption))).trans (by first | assumption | exact hu_s | exact (hu_n (by first | exact kd_nk (by decide) | exact kd_ni (by omega) | exact kd_ng (by omega) | assumption | exact Ne.symm (by assumption))).trans (by first | assumption | exact hu_s | exact (hu_n (by first | exact kd_nk (by decide) | exact kd_ni (by omega) | exact kd_ng (by omega) | assumption | exact Ne.symm (by assumption))).trans (by first | assumption | exact hu_s)))
            · exact rfl
            · exact Nat.le_of_ble_eq_true rfl
            · exact ⟨Nat.le_of_ble_eq_true rfl, Nat.le_of_ble_eq_true rfl⟩
            · exact ⟨by dsimp only [rmm]; omega, by dsimp only [rmm]; omega⟩
            rintro r I1 ⟨rfl, rfl⟩
            refine M_put X dX9_publish_136 fk_X9_299 (by decide) rfl ?_
            refine V_aload_n X dX9_publish_139 rfl rfl ?_
            refine M_geta X dX9_publish_140 fk_X9_35 (by decide) rfl ?_
            refine V_iload_n X dX9_publish_143 rfl ?_
            refine V_dup2 X dX9_publish_144 rfl rfl ?_
            refine M_iald X dX9_publish_145 (by decide) rfl (ses_in hI.1.1 (lack_ses h0)) ?_
            refine V_iconst (v := 1) X dX9_publish_146 (by decide) ?_
            refine V_iadd X dX9_publish_147 ?_
            refine M_iast X dX9_publish_148 (by decide) rfl (ses_in hI.1.1 (lack_ses h0)) ?_
            rw [show pa (pa (ackS (entS S s) s b n).1 60 0 (ackS (entS S s) s b n).2) 12 s.toNatClampNeg ((pa (ackS (entS S s) s b n).1 60 0 (ackS (entS S s) s b n).2).1 12 s.toNatClampNeg + 1) = pubA (entS S s) s b n from rfl]
            obtain ⟨a, ha, ea⟩ := lt_of_in (ses_in hI.1.1 (lack_ses h0)) (by decide)
            have hP : Iv (c + 1) (pubA (entS S s) s b n) := by
              have c95 := c_95
              rw [show s.toNatClampNeg = a from by rw [ea]; exact nnI (by omega)] at c95
              have := ivPubA (b := b) (n := n) ha hE hc c95
              rw [← ea] at this
              exact this
            have eo : op_publish S s b n = if 0 ≤ bestS (pubA (entS S s) s b n) s then (makeS (pubA (entS S s) s b n) (nn (bestS (pubA (entS S s) s b n) s)), 1) else (pubA (entS S s) s b n, 0) := by
              rw [op_publish, if_pos h0, if_pos (hB.mpr c_80), if_neg c_95, if_neg c_105]
            have e15p : (pubA (entS S s) s b n).1 15 0 = nI N := by
              unfold pubA
              dsimp only
              rw [pa_n _ _ (by decide), pa_n _ _ (by decide), ackS_k (by decide)]
              exact e15
            refine V_iconst (v := (-1)) X dX9_publish_149 (by decide) ?_
            refine V_istore X dX9_publish_150 (by decide) rfl ?_
            refine V_iconst (v := 0) X dX9_publish_152 (by decide) ?_
            refine V_istore X dX9_publish_153 (by decide) rfl ?_
            exact pub_l2 X hN e15p hP eo (N + 1) 0 (-1) _ (by omega) (Nat.zero_le _) rfl
          · exact absurd c_118 (by decide)
        refine V_bipush (v := (-8)) X dX9_publish_108 (by decide) ?_
        refine V_goto X dX9_publish_110 114 (by decide) ?_
        refine V_istore X dX9_publish_114 (by decide) rfl ?_
        refine V_iload X dX9_publish_116 rfl ?_
        refine V_if_ge X dX9_publish_118 128 (by decide) (fun c_118 => ?_) (fun c_118 => ?_)
        · exact absurd c_118 (by decide)
        refine V_aload_n X dX9_publish_121 rfl rfl ?_
        refine V_iload X dX9_publish_122 rfl ?_
        apply V_callV1 X dX9_publish_124 mk_X9_175 iv_X9_refuse (c_refuse9 l (x := -8) (by unfold vp_in; decide))
        · first | assumption | exact hu_s | exact (hu_n (by first | exact kd_nk (by decide) | exact kd_ni (by omega) | exact kd_ng (by omega) | assumption | exact Ne.symm (by assumption))).trans (by first | assumption | exact hu_s | exact (hu_n (by first | exact kd_nk (by decide) | exact kd_ni (by omega) | exact kd_ng (by omega) | assumption | exact Ne.symm (by assumption))).trans (by first | assumption | exact hu_s | exact (hu_n (by first | exact kd_nk (by decide) | exact kd_ni (by omega) | exact kd_ng (by omega) | assumption | exact Ne.symm (by assumption))).trans (by first | assumption | exact hu_s)))
        · exact rfl
        · exact Nat.le_of_ble_eq_true rfl
        · exact ⟨Nat.le_of_ble_eq_true rfl, Nat.le_of_ble_eq_true rfl⟩
        · exact ⟨by dsimp only [rmm]; omega, by dsimp only [rmm]; omega⟩
        rintro r I1 ⟨rfl, rfl⟩
        refine V_iret X dX9_publish_127 ?_ ?_ ?_ ?_
        · exact rfl
        · dsimp only [rmm]; omega
        · dsimp only [rmm]; omega
        refine ⟨?_, ?_⟩ <;> rw [op_publish, if_pos h0, if_pos (hB.mpr c_80), if_neg c_95, if_pos c_105]
      refine V_bipush (v := (-9)) X dX9_publish_83 (by decide) ?_
      refine V_goto X dX9_publish_85 114 (by decide) ?_
      refine V_istore X dX9_publish_114 (by decide) rfl ?_
      refine V_iload X dX9_publish_116 rfl ?_
      refine V_if_ge X dX9_publish_118 128 (by decide) (fun c_118 => ?_) (fun c_118 => ?_)
      · exact absurd c_118 (by decide)
      refine V_aload_n X dX9_publish_121 rfl rfl ?_
      refine V_iload X dX9_publish_122 rfl ?_
      apply V_callV1 X dX9_publish_124 mk_X9_175 iv_X9_refuse (c_refuse9 l (x := -9) (by unfold vp_in; decide))
      · first | assumption | exact hu_s | exact (hu_n (by first | exact kd_nk (by decide) | exact kd_ni (by omega) | exact kd_ng (by omega) | assumption | exact Ne.symm (by assumption))).trans (by first | assumption | exact hu_s | exact (hu_n (by first | exact kd_nk (by decide) | exact kd_ni (by omega) | exact kd_ng (by omega) | assumption | exact Ne.symm (by assumption))).trans (by first | assumption | exact hu_s | exact (hu_n (by first | exact kd_nk (by decide) | exact kd_ni (by omega) | exact kd_ng (by omega) | assumption | exact Ne.symm (by assumption))).trans (by first | assumption | exact hu_s)))
      · exact rfl
      · exact Nat.le_of_ble_eq_true rfl
      · exact ⟨Nat.le_of_ble_eq_true rfl, Nat.le_of_ble_eq_true rfl⟩
      · exact ⟨by dsimp only [rmm]; omega, by dsimp only [rmm]; omega⟩
      rintro r I1 ⟨rfl, rfl⟩
      refine V_iret X dX9_publish_127 ?_ ?_ ?_ ?_
      · exact rfl
      · dsimp only [rmm]; omega
      · dsimp only [rmm]; omega
      refine ⟨?_, ?_⟩ <;> rw [op_publish, if_pos h0, if_neg (fun q => c_80 (hB.mp q))]
    · exact absurd c_70 (by decide)
  · refine V_iload X dX9_publish_13 rfl ?_
    refine V_aload_n X dX9_publish_15 rfl rfl ?_
    refine M_geti X dX9_publish_16 fk_X9_224 (by decide) rfl ?_
    refine V_icmp_ge X dX9_publish_19 68 (by decide) (fun c_19 => ?_) (fun c_19 => ?_)
    · refine V_iload X dX9_publish_68 rfl ?_
      refine V_if_ge X dX9_publish_70 78 (by decide) (fun c_70 => ?_) (fun c_70 => ?_)
      · exact absurd c_70 h0
      refine V_iload X dX9_publish_73 rfl ?_
      refine V_goto X dX9_publish_75 114 (by decide) ?_
      refine V_istore X dX9_publish_114 (by decide) rfl ?_
      refine V_iload X dX9_publish_116 rfl ?_
      refine V_if_ge X dX9_publish_118 128 (by decide) (fun c_118 => ?_) (fun c_118 => ?_)
      · exact absurd c_118 h0
      refine V_aload_n X dX9_publish_121 rfl rfl ?_
      refine V_iload X dX9_publish_122 rfl ?_
      apply V_callV1 X dX9_publish_124 mk_X9_175 iv_X9_refuse (c_refuse9 l (x := lackS S s) (lackS_in h0))
      · first | assumption | exact hu_s | exact (hu_n (by first | exact kd_nk (by decide) | exact kd_ni (by omega) | exact kd_ng (by omega) | assumption | exact Ne.symm (by assumption))).trans (by first | assumption | exact hu_s | exact (hu_n (by first | exact kd_nk (by decide) | exact kd_ni (by omega) | exact kd_ng (by omega) | assumption | exact Ne.symm (by assumption))).trans (by first | assumption | exact hu_s | exact (hu_n (by first | exact kd_nk (by decide) | exact kd_ni (by omega) | exact kd_ng (by omega) | assumption | exact Ne.symm (by assumption))).trans (by first | assumption | exact hu_s)))
      · exact rfl
      · exact Nat.le_of_ble_eq_true rfl
      · exact ⟨Nat.le_of_ble_eq_true rfl, Nat.le_of_ble_eq_true rfl⟩
      · exact ⟨by dsimp only [rmm]; omega, by dsimp only [rmm]; omega⟩
      rintro r I1 ⟨rfl, rfl⟩
      refine V_iret X dX9_publish_127 ?_ ?_ ?_ ?_
      · exact rfl
      · dsimp only [rmm]; omega
      · dsimp only [rmm]; omega
      refine ⟨?_, ?_⟩ <;> rw [op_publish, if_neg h0]
    refine V_iload X dX9_publish_22 rfl ?_
    refine V_if_ne X dX9_publish_24 68 (by decide) (fun c_24 => ?_) (fun c_24 => ?_)
    · refine V_iload X dX9_publish_68 rfl ?_
      refine V_if_ge X dX9_publish_70 78 (by decide) (fun c_70 => ?_) (fun c_70 => ?_)
      · exact absurd c_70 h0
      refine V_iload X dX9_publish_73 rfl ?_
      refine V_goto X dX9_publish_75 114 (by decide) ?_
      refine V_istore X dX9_publish_114 (by decide) rfl ?_
      refine V_iload X dX9_publish_116 rfl ?_
      refine V_if_ge X dX9_publish_118 128 (by decide) (fun c_118 => ?_) (fun c_118 => ?_)
      · exact absurd c_118 h0
      refine V_aload_n X dX9_publish_121 rfl rfl ?_
      refine V_iload X dX9_publish_122 rfl ?_
      apply V_callV1 X dX9_publish_124 mk_X9_175 iv_X9_refuse (c_refuse9 l (x := lackS S s) (lackS_in h0))
      · first | assumption | exact hu_s | exact (hu_n (by first | exact kd_nk (by decide) | exact kd_ni (by omega) | exact kd_ng (by omega) | assumption | exact Ne.symm (by assumption))).trans (by first | assumption | exact hu_s | exact (hu_n (by first | exact kd_nk (by decide) | exact kd_ni (by omega) | exact kd_ng (by omega) | assumption | exact Ne.symm (by assumption))).trans (by first | assumption | exact hu_s | exact (hu_n (by first | exact kd_nk (by decide) | exact kd_ni (by omega) | exact kd_ng (by omega) | assumption | exact Ne.symm (by assumption))).trans (by first | assumption | exact hu_s)))
      · exact rfl
      · exact Nat.le_of_ble_eq_true rfl
      · exact ⟨Nat.le_of_ble_eq_true rfl, Nat.le_of_ble_eq_true rfl⟩
      · exact ⟨by dsimp only [rmm]; omega, by dsimp only [rmm]; omega⟩
      rintro r I1 ⟨rfl, rfl⟩
      refine V_iret X dX9_publish_127 ?_ ?_ ?_ ?_
      · exact rfl
      · dsimp only [rmm]; omega
      · dsimp only [rmm]; omega
      refine ⟨?_, ?_⟩ <;> rw [op_publish, if_neg h0]
    · exact absurd (by rw [c_24]; decide) h0
