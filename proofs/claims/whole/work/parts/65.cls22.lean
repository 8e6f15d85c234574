/-! fallShort, wantsToSend -/
theorem late_y {S : St} {b : Nat} (hb : b < 2 ^ 31) (h : S.1 28 b = 0) : pa (pa (pa S 28 b 1) 29 b (S.1 30 0 + 1)) 30 0 (S.1 30 0 + 1) = lateS S (nI b) := by
  unfold lateS
  rw [nnI hb, if_pos h, pa_cm (k := 29) (k' := 30) (by decide)]
  rfl
theorem late_n {S : St} {b : Nat} (hb : b < 2 ^ 31) (h : ¬ S.1 28 b = 0) : S = lateS S (nI b) := by
  unfold lateS
  rw [nnI hb, if_neg h]
theorem short_y {S T : St} {b : Nat} (hb : b < 2 ^ 31) (e : T = lateS S (nI b)) (h : 0 < (pa T 26 b (T.1 26 b - 1)).1 26 b) : shortS S (nI b) = pa T 26 b (T.1 26 b - 1) := by
  rw [e] at h ⊢
  unfold shortS
  dsimp only
  rw [nnI hb, if_pos h]
theorem short_n {S T : St} {b : Nat} (hb : b < 2 ^ 31) (e : T = lateS S (nI b)) (h : ¬ 0 < (pa T 26 b (T.1 26 b - 1)).1 26 b) : shortS S (nI b) = remS (pa T 26 b (T.1 26 b - 1)) (nI b) := by
  rw [e] at h ⊢
  unfold shortS
  dsimp only
  rw [nnI hb, if_neg h]
set_option maxRecDepth 100000 in
set_option maxHeartbeats 4000000 in
theorem k_short (l : Launch) {S : St} {Q : Nat → List Nat} {J : aH} {b : Nat} (hb : b < nn (S.1 15 0)) (c : CT S) (R : RJ S Q J) (h30 : ¬ S.1 30 0 + 1 = 0) : AM l yX8_fallShort cX8_fallShort 2 none (rmm 4 0 0 85) [.ref rO, .ref (kd 5 b 0)] (ovc S J) (VR (shortS S (nI b)) Q J) := by
  have hb2 : b < 2 ^ 31 := by have := (ct_nn c.2.2.2.1 (by decide)).1; omega
  refine AM_of RX8 (by decide) rfl [some (.ref rO), some (.ref (kd 5 b 0))] rfl (Nat.le_of_ble_eq_true rfl) (fun Z X hNm => ?_)
  refine V_aload_n X dX8_fallShort_0 rfl rfl ?_
  apply V_get X dX8_fallShort_1 fk_X8_292
  · exact at_sub (hb)
  · exact rfl
  refine V_if_ne X dX8_fallShort_4 30 (by decide) (fun c_4 => ?_) (fun c_4 => ?_)
  · refine V_aload_n X dX8_fallShort_30 rfl rfl ?_
    refine V_dup X dX8_fallShort_31 rfl ?_
    apply V_get X dX8_fallShort_32 fk_X8_164
    · exact at_sub (hb)
    · exact rfl
    refine V_iconst (v := 1) X dX8_fallShort_35 (by decide) ?_
    refine V_isub X dX8_fallShort_36 ?_
    refine P5_12 X dX8_fallShort_37 fk_X8_164 (hb) ?_
    refine V_aload_n X dX8_fallShort_40 rfl rfl ?_
    apply V_get X dX8_fallShort_41 fk_X8_164
    · exact at_sub (hb)
    · exact rfl
    refine V_if_gt X dX8_fallShort_44 51 (by decide) (fun c_44 => ?_) (fun c_44 => ?_)
    · refine V_vret X dX8_fallShort_51 ?_ ?_ ?_
      · dsimp only [rmm]; omega
      · dsimp only [rmm]; omega
      rw [short_y (T := S) hb2 (late_n hb2 c_4) c_44]
      exact ⟨rfl, J, rfl, R.cg, FJ.rf⟩
    refine V_aload_n X dX8_fallShort_47 rfl rfl ?_
    apply V_callV0 X dX8_fallShort_48 mk_X8_179 iv_X7_end (k_end l (S := pa S 26 b (S.1 26 b - 1)) hb c.cg R.cg)
    · exact at_sub (hb)
    · exact rfl
    · exact Nat.le_of_ble_eq_true rfl
    · exact ⟨Nat.le_of_ble_eq_true rfl, Nat.le_of_ble_eq_true rfl⟩
    · exact ⟨by dsimp only [rmm]; omega, by dsimp only [rmm]; omega⟩
    rintro r I1 ⟨rfl, J2, rfl, R2, F2⟩
    refine V_vret X dX8_fallShort_51 ?_ ?_ ?_
    · dsimp only [rmm]; omega
    · dsimp only [rmm]; omega
    rw [short_n (T := S) hb2 (late_n hb2 c_4) c_44]
    exact ⟨rfl, J2, rfl, R2, F2⟩
  refine V_aload_n X dX8_fallShort_7 rfl rfl ?_
  refine V_iconst (v := 1) X dX8_fallShort_8 (by decide) ?_
  refine P5_15 X dX8_fallShort_9 fk_X8_292 (hb) (Or.inr rfl) ?_
  refine V_aload_n X dX8_fallShort_12 rfl rfl ?_
  refine V_aload_n X dX8_fallShort_13 rfl rfl ?_
  apply V_get X dX8_fallShort_14 fk_X8_46
  · exact at_root
  · exact rfl
  refine P5_16 X dX8_fallShort_17 fk_X8_349 (hb) (h30) ?_
  refine V_aload_n X dX8_fallShort_20 rfl rfl ?_
  refine V_dup X dX8_fallShort_21 rfl ?_
  apply V_get X dX8_fallShort_22 fk_X8_46
  · exact at_root
  · exact rfl
  refine V_iconst (v := 1) X dX8_fallShort_25 (by decide) ?_
  refine V_iadd X dX8_fallShort_26 ?_
  refine P1_10 X dX8_fallShort_27 fk_X8_46 ?_
  refine V_aload_n X dX8_fallShort_30 rfl rfl ?_
  refine V_dup X dX8_fallShort_31 rfl ?_
  apply V_get X dX8_fallShort_32 fk_X8_164
  · exact at_sub (hb)
  · exact rfl
  refine V_iconst (v := 1) X dX8_fallShort_35 (by decide) ?_
  refine V_isub X dX8_fallShort_36 ?_
  refine P5_12 X dX8_fallShort_37 fk_X8_164 (hb) ?_
  refine V_aload_n X dX8_fallShort_40 rfl rfl ?_
  apply V_get X dX8_fallShort_41 fk_X8_164
  · exact at_sub (hb)
  · exact rfl
  refine V_if_gt X dX8_fallShort_44 51 (by decide) (fun c_44 => ?_) (fun c_44 => ?_)
  · refine V_vret X dX8_fallShort_51 ?_ ?_ ?_
    · dsimp only [rmm]; omega
    · dsimp only [rmm]; omega
    rw [short_y (T := (pa (pa (pa S 28 b 1) 29 b (S.1 30 0 + 1)) 30 0 (S.1 30 0 + 1))) hb2 (late_y hb2 c_4) c_44]
    exact ⟨rfl, J, rfl, R.cg, FJ.rf⟩
  refine V_aload_n X dX8_fallShort_47 rfl rfl ?_
  apply V_callV0 X dX8_fallShort_48 mk_X8_179 iv_X7_end (k_end l (S := pa (pa (pa (pa S 28 b 1) 29 b (S.1 30 0 + 1)) 30 0 (S.1 30 0 + 1)) 26 b ((pa (pa (pa S 28 b 1) 29 b (S.1 30 0 + 1)) 30 0 (S.1 30 0 + 1)).1 26 b - 1)) hb c.cg R.cg)
  · exact at_sub (hb)
  · exact rfl
  · exact Nat.le_of_ble_eq_true rfl
  · exact ⟨Nat.le_of_ble_eq_true rfl, Nat.le_of_ble_eq_true rfl⟩
  · exact ⟨by dsimp only [rmm]; omega, by dsimp only [rmm]; omega⟩
  rintro r I1 ⟨rfl, J2, rfl, R2, F2⟩
  refine V_vret X dX8_fallShort_51 ?_ ?_ ?_
  · dsimp only [rmm]; omega
  · dsimp only [rmm]; omega
  rw [short_n (T := (pa (pa (pa S 28 b 1) 29 b (S.1 30 0 + 1)) 30 0 (S.1 30 0 + 1))) hb2 (late_y hb2 c_4) c_44]
  exact ⟨rfl, J2, rfl, R2, F2⟩
theorem cycN_0 {S : St} {b : Nat} (h : S.1 27 b = 0) : cycN S b = S := by
  unfold cycN
  rw [if_pos h, Int32.sub_zero]
  refine St_ext (fun k i => ?_) rfl
  rw [pa_1]
  split
  · rename_i q
    rw [q.1, q.2]
  · rfl
theorem cycN_1 {S : St} {b : Nat} (h : ¬ S.1 27 b = 0) : cycN S b = pa S 25 b (S.1 25 b - 1) := by
  unfold cycN
  rw [if_neg h]
abbrev wanC (S : St) (b : Nat) : Prop := (cycN S b).1 27 b = 0 ∨ (cycN S b).1 25 b ≤ 0
set_option maxRecDepth 100000 in
set_option maxHeartbeats 4000000 in
theorem k_wants (l : Launch) {S : St} {Q : Nat → List Nat} {J : aH} {b : Nat} (hb : b < nn (S.1 15 0)) (c : CT S) (R : RJ S Q J) (hq8 : ∀ x, x < nn (S.1 32 0) → sm (S.1 44 x) 8) : AM l yX7_wantsToSend cX7_wantsToSend 1 (some .boolean) (rmm 5 0 0 107) [.ref (kd 5 b 0)] (ovc S J) (fun r I' => (rdy S (nI b) ∧ r = some (.int 1) ∧ I' = ovc S J) ∨ (¬ rdy S (nI b) ∧ wanC S b ∧ r = some (.int 1) ∧ I' = ovc (cycN S b) J) ∨ (¬ rdy S (nI b) ∧ ¬ wanC S b ∧ r = some (.int 0) ∧ I' = ovc (cycN S b) J)) := by
  have h60 := (ct_nn c.2.2.2.2.1 (by decide)).1
  have h20 := (ct_nn c.2.2.2.1 (by decide)).1
  refine AM_of RX7 (by decide) rfl [some (.ref (kd 5 b 0))] rfl (Nat.le_of_ble_eq_true rfl) (fun Z X hNm => ?_)
  refine V_aload_n X dX7_wantsToSend_0 rfl rfl ?_
  apply V_callV0 X dX7_wantsToSend_1 mk_X7_80 iv_X7_isReady (k_ready l hb (R.its hb) (R.ql hq8) h60 (by omega))
  · exact at_sub (hb)
  · exact rfl
  · exact Nat.le_of_ble_eq_true rfl
  · exact ⟨Nat.le_of_ble_eq_true rfl, Nat.le_of_ble_eq_true rfl⟩
  · exact ⟨by dsimp only [rmm]; omega, by dsimp only [rmm]; omega⟩
  rintro r I1 ⟨rfl, rfl⟩
  refine V_if_eq X dX7_wantsToSend_4 9 (by decide) (fun c_4 => ?_) (fun c_4 => ?_)
  · have h_4 := bz_f c_4
    refine V_aload_n X dX7_wantsToSend_9 rfl rfl ?_
    apply V_get X dX7_wantsToSend_10 fk_X7_27
    · exact at_sub (hb)
    · exact rfl
    refine V_if_eq X dX7_wantsToSend_13 26 (by decide) (fun c_13 => ?_) (fun c_13 => ?_)
    · refine V_aload_n X dX7_wantsToSend_26 rfl rfl ?_
      apply V_get X dX7_wantsToSend_27 fk_X7_27
      · exact at_sub (hb)
      · exact rfl
      refine V_if_eq X dX7_wantsToSend_30 40 (by decide) (fun c_30 => ?_) (fun c_30 => ?_)
      · refine V_iconst (v := 1) X dX7_wantsToSend_40 (by decide) ?_
        refine V_goto X dX7_wantsToSend_41 45 (by decide) ?_
        refine V_iret X dX7_wantsToSend_45 ?_ ?_ ?_ ?_
        · exact rfl
        · dsimp only [rmm]; omega
        · dsimp only [rmm]; omega
        refine Or.inr (Or.inl ⟨h_4, Or.inl ?_, rfl, ?_⟩)
        · rw [cycN_0 c_13]; exact c_13
        · rw [cycN_0 c_13]
      · exact absurd c_13 c_30
    refine V_aload_n X dX7_wantsToSend_16 rfl rfl ?_
    refine V_dup X dX7_wantsToSend_17 rfl ?_
    apply V_get X dX7_wantsToSend_18 fk_X7_70
    · exact at_sub (hb)
    · exact rfl
    refine V_iconst (v := 1) X dX7_wantsToSend_21 (by decide) ?_
    refine V_isub X dX7_wantsToSend_22 ?_
    refine P5_11 X dX7_wantsToSend_23 fk_X7_70 (hb) ?_
    refine V_aload_n X dX7_wantsToSend_26 rfl rfl ?_
    apply V_get X dX7_wantsToSend_27 fk_X7_27
    · exact at_sub (hb)
    · exact rfl
    refine V_if_eq X dX7_wantsToSend_30 40 (by decide) (fun c_30 => ?_) (fun c_30 => ?_)
    · exact absurd c_30 c_13
    refine V_aload_n X dX7_wantsToSend_33 rfl rfl ?_
    apply V_get X dX7_wantsToSend_34 fk_X7_70
    · exact at_sub (hb)
    · exact rfl
    refine V_if_gt X dX7_wantsToSend_37 44 (by decide) (fun c_37 => ?_) (fun c_37 => ?_)
    · refine V_iconst (v := 0) X dX7_wantsToSend_44 (by decide) ?_
      refine V_iret X dX7_wantsToSend_45 ?_ ?_ ?_ ?_
      · exact rfl
      · dsimp only [rmm]; omega
      · dsimp only [rmm]; omega
      refine Or.inr (Or.inr ⟨h_4, ?_, rfl, ?_⟩)
      · unfold wanC
        rw [cycN_1 c_13]
        exact fun z => z.elim c_13 (fun y => absurd c_37 (le_ge y))
      · rw [cycN_1 c_13]
    refine V_iconst (v := 1) X dX7_wantsToSend_40 (by decide) ?_
    refine V_goto X dX7_wantsToSend_41 45 (by decide) ?_
    refine V_iret X dX7_wantsToSend_45 ?_ ?_ ?_ ?_
    · exact rfl
    · dsimp only [rmm]; omega
    · dsimp only [rmm]; omega
    refine Or.inr (Or.inl ⟨h_4, Or.inr ?_, rfl, ?_⟩)
    · rw [cycN_1 c_13]
      exact ge_le c_37
    · rw [cycN_1 c_13]
  have h_4 := bz_t c_4
  refine V_iconst (v := 1) X dX7_wantsToSend_7 (by decide) ?_
  refine V_iret X dX7_wantsToSend_8 ?_ ?_ ?_ ?_
  · exact rfl
  · dsimp only [rmm]; omega
  · dsimp only [rmm]; omega
  exact Or.inl ⟨h_4, rfl, rfl⟩
/-! answerRequests -/
theorem cycW_a {T : St} {b f : Nat} (hm : mayM T b) (h : (makeS T b).1 31 b = 0) : cycW b (f + 1) T = makeS T b := by rw [cycW, if_pos hm, if_pos h]
theorem cycW_b {T : St} {b f : Nat} (hm : mayM T b) (h : ¬ (makeS T b).1 31 b = 0) (h2 : (makeS T b).1 12 (nn ((makeS T b).1 17 b)) ≤ 0) : cycW b (f + 1) T = makeS T b := by rw [cycW, if_pos hm, if_neg h, if_pos h2]
theorem cycW_c {T : St} {b f : Nat} (hm : mayM T b) (h : ¬ (makeS T b).1 31 b = 0) (h2 : ¬ (makeS T b).1 12 (nn ((makeS T b).1 17 b)) ≤ 0) : cycW b (f + 1) T = cycW b f (makeS T b) := by rw [cycW, if_pos hm, if_neg h, if_neg h2]
theorem VR.q {S : St} {Q : Nat → List Nat} {J : aH} {r : Option Value} {I : aH} (h : VR S Q J r I) : VQ S J r I := by
  obtain ⟨a, J', b, c, d⟩ := h
  exact ⟨a, Q, J', b, c, d⟩
set_option maxRecDepth 100000 in
set_option maxHeartbeats 4000000 in
theorem ans_loop {l : Launch} {Z : Zt} {S : St} {J : aH} {c B b r : Nat} (hB : B + 1 < 2 ^ 31) (hr4 : r ≤ 4) (X : Fx Z l (rmm 9 (uc (cycW b 5 S) - uc S) (us (cycW b 5 S) - us S) 235) cX8_answerRequests 4 RX8 none (VQ (cycW b 5 S) J)) : ∀ (m k : Nat) (T : St) (Q : Nat → List Nat) (J1 : aH), r - k < m → k ≤ r → IN c B T → b < nn (T.1 15 0) → nn (T.1 12 (nn (T.1 17 b))) = r - k → RJ T Q J1 → FJ J J1 → ((k < r → cycW b 5 S = cycW b (5 - k) T) ∧ (k = r → cycW b 5 S = T)) → (uc S ≤ uc T ∧ us S ≤ us T ∧ uc T ≤ uc (cycW b 5 S) ∧ us T ≤ us (cycW b 5 S)) → V Z 4 (ovc T J1) [some (.ref rO), some (.ref (kd 5 b 0)), some (.int (nI r)), some (.int (nI k))] [] (uc T - uc S) (us T - us S) 20
  | 0, _, _, _, _, _, _, _, _, _, _, _, _, _ => absurd (by assumption) (Nat.not_lt_zero _)
  | m + 1, k, T, Q, J1, hm, hk, I, hb, hr, R, F, hF, hu => by
    refine V_iload_n X dX8_answerRequests_20 rfl ?_
    refine V_iload_n X dX8_answerRequests_21 rfl ?_
    refine V_icmp_ge X dX8_answerRequests_22 63 (by decide) (fun c_22 => ?_) (fun c_22 => ?_)
    · have hx2 : k = r := by
        rcases Nat.lt_or_ge k (r) with z | z
        · exact absurd c_22 (nI_ge z (by omega))
        · omega
      have hFx := hF.2 hx2
      have hFu : uc T = uc (cycW b 5 S) ∧ us T = us (cycW b 5 S) := by rw [hFx]; exact ⟨rfl, rfl⟩
      refine V_vret X dX8_answerRequests_63 ?_ ?_ ?_
      · dsimp only [rmm]; omega
      · dsimp only [rmm]; omega
      rw [hF.2 hx2]
      exact ⟨rfl, Q, J1, rfl, R, F⟩
    have hlt : k < r := by
      rcases Nat.lt_or_ge k (r) with z | z
      · exact z
      · exact absurd (nI_le z (by omega)) c_22
    refine V_aload_n X dX8_answerRequests_25 rfl rfl ?_
    apply V_get X dX8_answerRequests_26 fk_X8_28
    · exact at_root
    · exact rfl
    have h512 := (ct_nn I.2.1.2.2.2.2.2 (by decide)).1
    apply V_callV0 X dX8_answerRequests_29 mk_X8_59 iv_Jx4a65c_size_8abf5 (k_size l (x := nI (nn (T.1 48 0))) (R.ml.2.2.2.2.2.ov rfl rfl) (by rw [rg_len]))
    · exact ll_o (R.ml.2.2.2.2.2.ov rfl rfl)
    · exact rfl
    · exact Nat.le_of_ble_eq_true rfl
    · exact ⟨Nat.le_of_ble_eq_true rfl, Nat.le_of_ble_eq_true rfl⟩
    · exact ⟨by dsimp only [rmm]; omega, by dsimp only [rmm]; omega⟩
    rintro r I1 ⟨rfl, rfl⟩
    refine V_sipush (v := 900) X dX8_answerRequests_32 (by decide) ?_
    refine V_icmp_lt X dX8_answerRequests_35 44 (by decide) (fun c_35 => ?_) (fun c_35 => ?_)
    · have h20 := (ct_nn I.2.1.2.2.2.1 (by decide)).1
      have h12 := (ct_nn I.2.1.2.2.1 (by decide)).1
      have h60 := (ct_nn I.2.1.2.2.2.2.1 (by decide)).1
      have how := I.2.2.2.1.1 b hb
      have hs4 := (I.1.2.2.2.1 (nn (T.1 17 b)) (by omega)).1
      have hmay := (I.may hb).mpr (by omega)
      have I2 := I.make hb (by omega)
      have um := I.umake hb
      have e48 := I.make48 hb
      have e13 := I.make13 hb
      have h48 := (ct_nn I2.2.1.2.2.2.2.2 (by decide)).1
      have h13 := (I2.1.2.2.2.1 (nn (T.1 17 b)) (by omega)).2.2
      have e17 : (makeS T b).1 17 b = T.1 17 b := make_k (by decide)
      have e12 := make_12 I.1 (show b < 20 by omega) (show 1 ≤ nn (T.1 12 (nn (T.1 17 b))) by omega)
      have s12 := (I2.1.2.2.2.1 (nn (T.1 17 b)) (by omega)).1
      have hFT : cycW b 5 S = cycW b (5 - k) T := hF.1 hlt
      have mono := IN.cw (b := b) (4 - k) (makeS T b) I2 (by rw [make15]; exact hb) hB
      have hFm : uc (makeS T b) ≤ uc (cycW b 5 S) ∧ us (makeS T b) ≤ us (cycW b 5 S) := by
        rw [hFT, show 5 - k = (4 - k) + 1 by omega]
        by_cases h1 : (makeS T b).1 31 b = 0
        · rw [cycW_a hmay h1]
          exact ⟨Nat.le_refl _, Nat.le_refl _⟩
        · by_cases h2 : (makeS T b).1 12 (nn ((makeS T b).1 17 b)) ≤ 0
          · rw [cycW_b hmay h1 h2]
            exact ⟨Nat.le_refl _, Nat.le_refl _⟩
          · rw [cycW_c hmay h1 h2]
            exact ⟨mono.2.2.1, mono.2.2.2⟩
      refine V_aload_n X dX8_answerRequests_44 rfl rfl ?_
      refine V_aload_n X dX8_answerRequests_45 rfl rfl ?_
      apply V_callV1 X dX8_answerRequests_46 mk_X8_238 iv_X8_send (k_send l (M := nn (T.1 48 0)) hb I.2.1 R I.2.2.2.1 I.2.2.2.2.2.2.1 I.2.2.2.2.2.2.2.2.2.2.2.2 rfl (by omega) (I.2.2.2.2.1.2.2.2.2 _ (Nat.le_refl _)) (I.1.2.2.1 b (by omega)).2 (fun x hx => (I.1.2.1 x hx).1) (I.2.2.2.2.2.2.2.2.2.2.1 b (by omega)) (by omega))
      · exact at_root
      · exact rfl
      · exact Nat.le_of_ble_eq_true rfl
      · exact ⟨Nat.le_of_ble_eq_true rfl, Nat.le_of_ble_eq_true rfl⟩
      · exact ⟨by dsimp only [rmm]; omega, by dsimp only [rmm]; omega⟩
      rintro r0 I1 ⟨rfl, Q2, J2, rfl, R2, F2⟩
      have hb2 : b < nn ((makeS T b).1 15 0) := by rw [make15]; exact hb
      refine V_aload_n X dX8_answerRequests_49 rfl rfl ?_
      apply V_get X dX8_answerRequests_50 fk_X8_348
      · exact at_sub (hb2)
      · exact rfl
      refine V_if_ne X dX8_answerRequests_53 57 (by decide) (fun c_53 => ?_) (fun c_53 => ?_)
      · refine V_iinc X dX8_answerRequests_57 rfl (by decide) rfl (nI (k + 1)) (nI_1 k) ?_
        refine V_goto X dX8_answerRequests_60 20 (by decide) ?_
        refine V_widen (c2 := uc (makeS T b) - uc S) (s2 := us (makeS T b) - us S) (by dsimp only [rmm]; omega) (by dsimp only [rmm]; omega) ?_
        refine ans_loop hB hr4 X m (k + 1) (makeS T b) Q2 J2 (by omega) (by omega) I2 hb2 (by rw [e17, e12]; omega) R2 (F.tr F2) ⟨fun h1 => ?_, fun h1 => ?_⟩ (by omega)
        · rw [hFT, show 5 - k = (4 - k) + 1 by omega, cycW_c hmay c_53 (fun z => by rw [e17, s12.1, nI_pos0 (by have := s12.2; omega), e12] at z; omega), show 5 - (k + 1) = 4 - k by omega]
        · rw [hFT, show 5 - k = (4 - k) + 1 by omega, cycW_b hmay c_53 (by rw [e17, s12.1, nI_pos0 (by have := s12.2; omega), e12]; omega)]
      refine V_vret X dX8_answerRequests_56 ?_ ?_ ?_
      · dsimp only [rmm]; omega
      · dsimp only [rmm]; omega
      have e : cycW b 5 S = makeS T b := by rw [hFT, show 5 - k = (4 - k) + 1 by omega, cycW_a hmay c_53]
      rw [e]
      exact ⟨rfl, Q2, J2, rfl, R2, F.tr F2⟩
    · exact absurd (nI_lt (b := 900) (by omega) (by decide)) c_35
set_option maxRecDepth 100000 in
set_option maxHeartbeats 4000000 in
theorem k_answer (l : Launch) {S : St} {Q : Nat → List Nat} {J : aH} {c B b : Nat} (hb : b < nn (S.1 15 0)) (I : IN c B S) (R : RJ S Q J) (hB : B + 1 < 2 ^ 31) : AM l yX8_answerRequests cX8_answerRequests 4 none (rmm 9 (uc (cycW b 5 S) - uc S) (us (cycW b 5 S) - us S) 235) [.ref rO, .ref (kd 5 b 0)] (ovc S J) (VQ (cycW b 5 S) J) := by
  have h20 := (ct_nn I.2.1.2.2.2.1 (by decide)).1
  have h12 := (ct_nn I.2.1.2.2.1 (by decide)).1
  have how := I.2.2.2.1.1 b hb
  have hs := (I.1.2.2.2.1 (nn (S.1 17 b)) (by omega)).1
  have hlo := I.2.2.2.2.2.2.2.2.2.2.2.1
  have hcw := IN.cw (b := b) 5 S I hb hB
  have h30 : ¬ S.1 30 0 + 1 = 0 := by
    have h1 := sm_inc hlo.1 (by omega)
    exact sm_ne0 h1.1 (by omega)
  refine AM_of RX8 (by decide) rfl [some (.ref rO), some (.ref (kd 5 b 0)), none, none] rfl (Nat.le_of_ble_eq_true rfl) (fun Z X hNm => ?_)
  refine V_aload_n X dX8_answerRequests_0 rfl rfl ?_
  apply V_get X dX8_answerRequests_1 fk_X8_175
  · exact at_sub (hb)
  · exact rfl
  apply V_get X dX8_answerRequests_4 fk_X8_224
  · exact at_ses (how.2)
  · exact rfl
  refine V_istore_n X dX8_answerRequests_7 (by decide) rfl ?_
  refine V_iload_n X dX8_answerRequests_8 rfl ?_
  refine V_if_ne X dX8_answerRequests_9 18 (by decide) (fun c_9 => ?_) (fun c_9 => ?_)
  · have hr1 : 1 ≤ nn (S.1 12 (nn (S.1 17 b))) := by
      rcases Nat.eq_zero_or_pos (nn (S.1 12 (nn (S.1 17 b)))) with z | z
      · exact absurd (by rw [hs.1, z]; rfl) c_9
      · exact z
    refine V_iconst (v := 0) X dX8_answerRequests_18 (by decide) ?_
    refine V_istore_n X dX8_answerRequests_19 (by decide) rfl ?_
    rw [hs.1]
    refine V_widen (c2 := uc S - uc S) (s2 := us S - us S) (by omega) (by omega) ?_
    exact ans_loop hB hs.2 X (nn (S.1 12 (nn (S.1 17 b))) + 1) 0 S Q J (by omega) (Nat.zero_le _) I hb rfl R FJ.rf ⟨fun _ => rfl, fun h => absurd h (by omega)⟩ ⟨Nat.le_refl _, Nat.le_refl _, hcw.2.2.1, hcw.2.2.2⟩
  have hno : ¬ mayM S b := fun z => z.1 (by rw [c_9]; decide)
  have e : cycW b 5 S = shortS S (nI b) := by rw [cycW, if_neg hno]
  refine V_aload_n X dX8_answerRequests_12 rfl rfl ?_
  refine V_aload_n X dX8_answerRequests_13 rfl rfl ?_
  apply V_callV1 X dX8_answerRequests_14 mk_X8_345 iv_X8_fallShort (k_short l hb I.2.1 R h30)
  · exact at_root
  · exact rfl
  · exact Nat.le_of_ble_eq_true rfl
  · exact ⟨Nat.le_of_ble_eq_true rfl, Nat.le_of_ble_eq_true rfl⟩
  · exact ⟨by dsimp only [rmm]; omega, by dsimp only [rmm]; omega⟩
  intro r0 I1 hP
  have hP2 := hP.q
  obtain ⟨rfl, -⟩ := hP
  refine V_vret X dX8_answerRequests_17 ?_ ?_ ?_
  · dsimp only [rmm]; omega
  · dsimp only [rmm]; omega
  rw [e]
  exact hP2
