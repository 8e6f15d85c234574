/-! a step, and tick -/
theorem pos_n {x : Int32} {b : Nat} (h : sm x b) (h1 : 1 ≤ nn x) (hb : b < 2 ^ 31) : ¬ x ≤ 0 := fun z => by
  rw [h.1, nI_pos0 (by have := h.2; omega)] at z
  exact z h1
set_option maxRecDepth 100000 in
set_option maxHeartbeats 4000000 in
theorem serve_loop {l : Launch} {Z : Zt} {S : St} {J : aH} {c B N : Nat} (I : IN c B S) (hB : B + 20 < 2 ^ 31) (hN : nn (S.1 15 0) = N) (X : Fx Z l (rmm 10 (uc (lp st2 N S) - uc S) (us (lp st2 N S) - us S) 258) cX8_serveSubscriptions 3 RX8 none (VQ (lp st2 N S) J)) : ∀ (m y : Nat) (Q : Nat → List Nat) (J1 : aH) (o2 : Option Value), N - y < m → y ≤ N → RJ (lp st2 y S) Q J1 → FJ J J1 → V Z 3 (ovc (lp st2 y S) J1) [some (.ref rO), some (.int (nI y)), o2] [] (uc (lp st2 y S) - uc S) (us (lp st2 y S) - us S) 2
  | 0, _, _, _, _, _, _, _, _ => absurd (by assumption) (Nat.not_lt_zero _)
  | m + 1, y, Q, J1, o2, hm, hy, R, F => by
    obtain ⟨IT, e15⟩ := I.l2 hB y (by omega)
    have h20 := (ct_nn I.2.1.2.2.2.1 (by decide)).1
    have u1 := I.m2 hB (y := 0) y (by omega)
    rw [Nat.zero_add] at u1
    have u2 := I.m2 hB (y := y) (N - y) (by omega)
    rw [show y + (N - y) = N by omega] at u2
    have u1c : uc S ≤ uc (lp st2 y S) := u1.1
    have u1s : us S ≤ us (lp st2 y S) := u1.2
    have h3 := R.ml.2.2.2.1
    rw [e15, hN] at h3
    refine V_iload_n X dX8_serveSubscriptions_2 rfl ?_
    refine V_aload_n X dX8_serveSubscriptions_3 rfl rfl ?_
    apply V_get X dX8_serveSubscriptions_4 fk_X8_22
    · exact at_root
    · exact rfl
    apply V_callV0 X dX8_serveSubscriptions_7 mk_X8_59 iv_Jx4a65c_size_8abf5 (k_size l (x := nI N) (h3.ov rfl rfl) (by rw [rg_len]))
    · exact ll_o (h3.ov rfl rfl)
    · exact rfl
    · exact Nat.le_of_ble_eq_true rfl
    · exact ⟨Nat.le_of_ble_eq_true rfl, Nat.le_of_ble_eq_true rfl⟩
    · exact ⟨by dsimp only [rmm]; omega, by dsimp only [rmm]; omega⟩
    rintro r I1 ⟨rfl, rfl⟩
    refine V_icmp_ge X dX8_serveSubscriptions_10 69 (by decide) (fun c_10 => ?_) (fun c_10 => ?_)
    · have hx2 : y = N := by
        rcases Nat.lt_or_ge y (N) with z | z
        · exact absurd c_10 (nI_ge z (by omega))
        · omega
      refine V_vret X dX8_serveSubscriptions_69 ?_ ?_ ?_
      · dsimp only [rmm]; omega
      · dsimp only [rmm]; omega
      rw [← hx2]
      exact ⟨rfl, Q, J1, rfl, R, F⟩
    have hlt : y < N := by
      rcases Nat.lt_or_ge y (N) with z | z
      · exact z
      · exact absurd (nI_le z (by omega)) c_10
    refine V_aload_n X dX8_serveSubscriptions_13 rfl rfl ?_
    apply V_get X dX8_serveSubscriptions_14 fk_X8_22
    · exact at_root
    · exact rfl
    refine V_iload_n X dX8_serveSubscriptions_17 rfl ?_
    apply V_callV1 X dX8_serveSubscriptions_18 mk_X8_119 iv_Jx4a65c_get_915e3 (k_gti l h3 (by omega) rfl rfl hlt)
    · exact ll_o (h3.ov rfl rfl)
    · exact rfl
    · exact Nat.le_of_ble_eq_true rfl
    · exact ⟨Nat.le_of_ble_eq_true rfl, Nat.le_of_ble_eq_true rfl⟩
    · exact ⟨by dsimp only [rmm]; omega, by dsimp only [rmm]; omega⟩
    rintro r I1 ⟨rfl, rfl⟩
    have hyb : y < nn ((lp st2 y S).1 15 0) := by rw [e15]; omega
    have hper := IT.1.2.2.2.2.2.1 y hyb
    have u3 := I.m2 hB (y := y + 1) (N - (y + 1)) (by omega)
    rw [show y + 1 + (N - (y + 1)) = N by omega] at u3
    have u4 := I.m2 hB (y := y) 1 (by omega)
    have en : lp st2 (y + 1) S = st2 y (lp st2 y S) := rfl
    apply V_cast (ci := 8) X dX8_serveSubscriptions_21 cl_X8_138
    · exact rfl
    · exact at_sub hyb
    refine V_astore_n X dX8_serveSubscriptions_24 (by decide) rfl rfl ?_
    refine V_aload_n X dX8_serveSubscriptions_25 rfl rfl ?_
    apply V_get X dX8_serveSubscriptions_26 fk_X8_319
    · exact at_sub (hyb)
    · exact rfl
    refine V_if_ne X dX8_serveSubscriptions_29 63 (by decide) (fun c_29 => ?_) (fun c_29 => ?_)
    · refine V_iinc X dX8_serveSubscriptions_63 rfl (by decide) rfl (nI (y + 1)) (nI_1 y) ?_
      refine V_goto X dX8_serveSubscriptions_66 2 (by decide) ?_
      have e : lp st2 (y + 1) S = (lp st2 y S) := by rw [en, st2, if_pos (gb_0 c_29)]
      rw [e] at u3 u4
      refine V_widen (c2 := uc (lp st2 y S) - uc S) (s2 := us (lp st2 y S) - us S) (by dsimp only [rmm]; omega) (by dsimp only [rmm]; omega) ?_
      rw [← e]
      exact serve_loop I hB hN X m (y + 1) Q J1 _ (by omega) (by omega) (by rw [e]; exact R) (F)
    refine V_aload_n X dX8_serveSubscriptions_32 rfl rfl ?_
    apply V_get X dX8_serveSubscriptions_33 fk_X8_35
    · exact at_root
    · exact rfl
    refine V_aload_n X dX8_serveSubscriptions_36 rfl rfl ?_
    apply V_get X dX8_serveSubscriptions_37 fk_X8_335
    · exact at_sub (hyb)
    · exact rfl
    refine V_isub X dX8_serveSubscriptions_40 ?_
    refine V_aload_n X dX8_serveSubscriptions_41 rfl rfl ?_
    apply V_get X dX8_serveSubscriptions_42 fk_X8_336
    · exact at_sub (hyb)
    · exact rfl
    refine V_callS2 X dX8_serveSubscriptions_45 mk_X8_329 st_X8_isMultiple (k_mult l _ _ (pos_n hper.2 hper.1 (by decide))) (Nat.le_of_ble_eq_true rfl) ⟨Nat.le_of_ble_eq_true rfl, Nat.le_of_ble_eq_true rfl⟩ ?_ ?_
    · exact ⟨by dsimp only [rmm]; omega, by dsimp only [rmm]; omega⟩
    rintro r I1 ⟨rfl, rfl⟩
    refine V_if_eq X dX8_serveSubscriptions_48 63 (by decide) (fun c_48 => ?_) (fun c_48 => ?_)
    · have h_48 := bz_f c_48
      refine V_iinc X dX8_serveSubscriptions_63 rfl (by decide) rfl (nI (y + 1)) (nI_1 y) ?_
      refine V_goto X dX8_serveSubscriptions_66 2 (by decide) ?_
      have e : lp st2 (y + 1) S = (lp st2 y S) := by rw [en, st2, if_neg (gb_1 c_29), if_neg h_48]
      rw [e] at u3 u4
      refine V_widen (c2 := uc (lp st2 y S) - uc S) (s2 := us (lp st2 y S) - us S) (by dsimp only [rmm]; omega) (by dsimp only [rmm]; omega) ?_
      rw [← e]
      exact serve_loop I hB hN X m (y + 1) Q J1 _ (by omega) (by omega) (by rw [e]; exact R) (F)
    have h_48 := bz_t c_48
    refine V_aload_n X dX8_serveSubscriptions_51 rfl rfl ?_
    apply V_callV0 X dX8_serveSubscriptions_52 mk_X8_339 iv_X7_wantsToSend (k_wants l hyb IT.2.1 R (fun x hx => (IT.1.2.1 x (by have := (ct_nn IT.2.1.2.2.2.2.1 (by decide)).1; omega)).1))
    · exact at_sub (hyb)
    · exact rfl
    · exact Nat.le_of_ble_eq_true rfl
    · exact ⟨Nat.le_of_ble_eq_true rfl, Nat.le_of_ble_eq_true rfl⟩
    · exact ⟨by dsimp only [rmm]; omega, by dsimp only [rmm]; omega⟩
    rintro r0 I1 (⟨hw, rfl, rfl⟩ | ⟨hw1, hw2, rfl, rfl⟩ | ⟨hw1, hw2, rfl, rfl⟩)
    · refine V_if_eq X dX8_serveSubscriptions_55 63 (by decide) (fun c_55 => ?_) (fun c_55 => ?_)
      · exact absurd c_55 (by decide)
      refine V_aload_n X dX8_serveSubscriptions_58 rfl rfl ?_
      refine V_aload_n X dX8_serveSubscriptions_59 rfl rfl ?_
      have e : lp st2 (y + 1) S = cycW y 5 (lp st2 y S) := by rw [en, st2, if_neg (gb_1 c_29), if_pos h_48, cyc_eq (by omega), if_pos hw]
      have uee : uc (lp st2 (y + 1) S) = uc (cycW y 5 (lp st2 y S)) ∧ us (lp st2 (y + 1) S) = us (cycW y 5 (lp st2 y S)) := by rw [e]; exact ⟨rfl, rfl⟩
      rw [e] at u3 u4
      apply V_callV1 X dX8_serveSubscriptions_60 mk_X8_342 iv_X8_answerRequests (k_answer l (S := (lp st2 y S)) hyb IT R (by omega))
      · exact at_root
      · exact rfl
      · exact Nat.le_of_ble_eq_true rfl
      · exact ⟨Nat.le_of_ble_eq_true rfl, Nat.le_of_ble_eq_true rfl⟩
      · exact ⟨by dsimp only [rmm]; omega, by dsimp only [rmm]; omega⟩
      rintro r0 I1 ⟨rfl, Q2, J2, rfl, R2, F2⟩
      rw [← e] at u3 u4
      refine V_iinc X dX8_serveSubscriptions_63 rfl (by decide) rfl (nI (y + 1)) (nI_1 y) ?_
      refine V_goto X dX8_serveSubscriptions_66 2 (by decide) ?_
      rw [← e] at R2
      refine V_widen (c2 := uc (lp st2 (y + 1) S) - uc S) (s2 := us (lp st2 (y + 1) S) - us S) (by dsimp only [rmm]; omega) (by dsimp only [rmm]; omega) ?_
      rw [← e]
      exact serve_loop I hB hN X m (y + 1) Q2 J2 _ (by omega) (by omega) R2 (F.tr F2)
    · have hw := And.intro hw1 hw2
      refine V_if_eq X dX8_serveSubscriptions_55 63 (by decide) (fun c_55 => ?_) (fun c_55 => ?_)
      · exact absurd c_55 (by decide)
      refine V_aload_n X dX8_serveSubscriptions_58 rfl rfl ?_
      refine V_aload_n X dX8_serveSubscriptions_59 rfl rfl ?_
      have e : lp st2 (y + 1) S = cycW y 5 (cycN (lp st2 y S) y) := by rw [en, st2, if_neg (gb_1 c_29), if_pos h_48, cyc_eq (by omega), if_neg hw.1, if_pos hw.2]
      have un : uc (cycN (lp st2 y S) y) = uc (lp st2 y S) ∧ us (cycN (lp st2 y S) y) = us (lp st2 y S) := u_cg rfl rfl rfl rfl rfl rfl
      have uee : uc (lp st2 (y + 1) S) = uc (cycW y 5 (cycN (lp st2 y S) y)) ∧ us (lp st2 (y + 1) S) = us (cycW y 5 (cycN (lp st2 y S) y)) := by rw [e]; exact ⟨rfl, rfl⟩
      rw [e] at u3 u4
      apply V_callV1 X dX8_serveSubscriptions_60 mk_X8_342 iv_X8_answerRequests (k_answer l (S := cycN (lp st2 y S) y) hyb (IT.put (k := 25) rfl) R.cg (by omega))
      · exact at_root
      · exact rfl
      · exact Nat.le_of_ble_eq_true rfl
      · exact ⟨Nat.le_of_ble_eq_true rfl, Nat.le_of_ble_eq_true rfl⟩
      · exact ⟨by dsimp only [rmm]; omega, by dsimp only [rmm]; omega⟩
      rintro r0 I1 ⟨rfl, Q2, J2, rfl, R2, F2⟩
      rw [← e] at u3 u4
      refine V_iinc X dX8_serveSubscriptions_63 rfl (by decide) rfl (nI (y + 1)) (nI_1 y) ?_
      refine V_goto X dX8_serveSubscriptions_66 2 (by decide) ?_
      rw [← e] at R2
      refine V_widen (c2 := uc (lp st2 (y + 1) S) - uc S) (s2 := us (lp st2 (y + 1) S) - us S) (by dsimp only [rmm]; omega) (by dsimp only [rmm]; omega) ?_
      rw [← e]
      exact serve_loop I hB hN X m (y + 1) Q2 J2 _ (by omega) (by omega) R2 (F.tr F2)
    have hw := And.intro hw1 hw2
    refine V_if_eq X dX8_serveSubscriptions_55 63 (by decide) (fun c_55 => ?_) (fun c_55 => ?_)
    · refine V_iinc X dX8_serveSubscriptions_63 rfl (by decide) rfl (nI (y + 1)) (nI_1 y) ?_
      refine V_goto X dX8_serveSubscriptions_66 2 (by decide) ?_
      have e : lp st2 (y + 1) S = (cycN (lp st2 y S) y) := by rw [en, st2, if_neg (gb_1 c_29), if_pos h_48, cyc_eq (by omega), if_neg hw.1, if_neg hw.2]
      rw [e] at u3 u4
      refine V_widen (c2 := uc (cycN (lp st2 y S) y) - uc S) (s2 := us (cycN (lp st2 y S) y) - us S) (by dsimp only [rmm]; omega) (by dsimp only [rmm]; omega) ?_
      rw [← e]
      exact serve_loop I hB hN X m (y + 1) Q J1 _ (by omega) (by omega) (by rw [e]; exact R.cg) (F)
    · exact absurd rfl c_55
set_option maxRecDepth 100000 in
set_option maxHeartbeats 4000000 in
theorem k_serve (l : Launch) {S : St} {Q : Nat → List Nat} {J : aH} {c B N : Nat} (I : IN c B S) (hB : B + 20 < 2 ^ 31) (hN : nn (S.1 15 0) = N) (R : RJ S Q J) : AM l yX8_serveSubscriptions cX8_serveSubscriptions 3 none (rmm 10 (uc (lp st2 N S) - uc S) (us (lp st2 N S) - us S) 258) [.ref rO] (ovc S J) (VQ (lp st2 N S) J) := by
  refine AM_of RX8 (by decide) rfl [some (.ref rO), none, none] rfl (Nat.le_of_ble_eq_true rfl) (fun Z X hNm => ?_)
  refine V_iconst (v := 0) X dX8_serveSubscriptions_0 (by decide) ?_
  refine V_istore_n X dX8_serveSubscriptions_1 (by decide) rfl ?_
  refine V_widen (c2 := uc (lp st2 0 S) - uc S) (s2 := us (lp st2 0 S) - us S) (Nat.zero_le _) (Nat.zero_le _) ?_
  exact serve_loop I hB hN X (N + 1) 0 Q J none (by omega) (Nat.zero_le _) R FJ.rf
set_option maxRecDepth 100000 in
set_option maxHeartbeats 4000000 in
theorem smpI_loop {l : Launch} {Z : Zt} {S : St} {J : aH} {c B N : Nat} (I : IN c B S) (hN : nn (S.1 32 0) = N) (X : Fx Z l (rmm 9 (uc (lp st1 N S) - uc S) (us (lp st1 N S) - us S) 235) cX8_sampleItems 3 RX8 none (VQ (lp st1 N S) J)) : ∀ (m y : Nat) (Q : Nat → List Nat) (J1 : aH) (o2 : Option Value), N - y < m → y ≤ N → RJ (lp st1 y S) Q J1 → FJ J J1 → V Z 3 (ovc (lp st1 y S) J1) [some (.ref rO), some (.int (nI y)), o2] [] (uc (lp st1 y S) - uc S) (us (lp st1 y S) - us S) 2
  | 0, _, _, _, _, _, _, _, _ => absurd (by assumption) (Nat.not_lt_zero _)
  | m + 1, y, Q, J1, o2, hm, hy, R, F => by
    obtain ⟨IT, e32⟩ := I.l1 y (by omega)
    have h60 := (ct_nn I.2.1.2.2.2.2.1 (by decide)).1
    have u1 := I.m1 (y := 0) y (by omega)
    rw [Nat.zero_add] at u1
    have u2 := I.m1 (y := y) (N - y) (by omega)
    rw [show y + (N - y) = N by omega] at u2
    have u1c : uc S ≤ uc (lp st1 y S) := u1.1
    have u1s : us S ≤ us (lp st1 y S) := u1.2
    have h3 := R.ml.2.2.2.2.1
    rw [e32, hN] at h3
    refine V_iload_n X dX8_sampleItems_2 rfl ?_
    refine V_aload_n X dX8_sampleItems_3 rfl rfl ?_
    apply V_get X dX8_sampleItems_4 fk_X8_25
    · exact at_root
    · exact rfl
    apply V_callV0 X dX8_sampleItems_7 mk_X8_59 iv_Jx4a65c_size_8abf5 (k_size l (x := nI N) (h3.ov rfl rfl) (by rw [rg_len]))
    · exact ll_o (h3.ov rfl rfl)
    · exact rfl
    · exact Nat.le_of_ble_eq_true rfl
    · exact ⟨Nat.le_of_ble_eq_true rfl, Nat.le_of_ble_eq_true rfl⟩
    · exact ⟨by dsimp only [rmm]; omega, by dsimp only [rmm]; omega⟩
    rintro r I1 ⟨rfl, rfl⟩
    refine V_icmp_ge X dX8_sampleItems_10 72 (by decide) (fun c_10 => ?_) (fun c_10 => ?_)
    · have hx2 : y = N := by
        rcases Nat.lt_or_ge y (N) with z | z
        · exact absurd c_10 (nI_ge z (by omega))
        · omega
      refine V_vret X dX8_sampleItems_72 ?_ ?_ ?_
      · dsimp only [rmm]; omega
      · dsimp only [rmm]; omega
      rw [← hx2]
      exact ⟨rfl, Q, J1, rfl, R, F⟩
    have hlt : y < N := by
      rcases Nat.lt_or_ge y (N) with z | z
      · exact z
      · exact absurd (nI_le z (by omega)) c_10
    refine V_aload_n X dX8_sampleItems_13 rfl rfl ?_
    apply V_get X dX8_sampleItems_14 fk_X8_25
    · exact at_root
    · exact rfl
    refine V_iload_n X dX8_sampleItems_17 rfl ?_
    apply V_callV1 X dX8_sampleItems_18 mk_X8_119 iv_Jx4a65c_get_915e3 (k_gti l h3 (by omega) rfl rfl hlt)
    · exact ll_o (h3.ov rfl rfl)
    · exact rfl
    · exact Nat.le_of_ble_eq_true rfl
    · exact ⟨Nat.le_of_ble_eq_true rfl, Nat.le_of_ble_eq_true rfl⟩
    · exact ⟨by dsimp only [rmm]; omega, by dsimp only [rmm]; omega⟩
    rintro r I1 ⟨rfl, rfl⟩
    have hyb : y < nn ((lp st1 y S).1 32 0) := by rw [e32]; omega
    have hper := IT.1.2.2.2.2.2.2 y hyb
    have hmo := IT.2.2.2.2.2.2.2.2.2.1 y hyb
    have u3 := I.m1 (y := y + 1) (N - (y + 1)) (by omega)
    rw [show y + 1 + (N - (y + 1)) = N by omega] at u3
    have u4 := I.m1 (y := y) 1 (by omega)
    have en : lp st1 (y + 1) S = st1 y (lp st1 y S) := rfl
    apply V_cast (ci := 2) X dX8_sampleItems_21 cl_X8_183
    · exact rfl
    · exact at_it hyb
    refine V_astore_n X dX8_sampleItems_24 (by decide) rfl rfl ?_
    refine V_aload_n X dX8_sampleItems_25 rfl rfl ?_
    apply V_get X dX8_sampleItems_26 fk_X8_322
    · exact at_it (hyb)
    · exact rfl
    refine V_if_ne X dX8_sampleItems_29 66 (by decide) (fun c_29 => ?_) (fun c_29 => ?_)
    · refine V_iinc X dX8_sampleItems_66 rfl (by decide) rfl (nI (y + 1)) (nI_1 y) ?_
      refine V_goto X dX8_sampleItems_69 2 (by decide) ?_
      have e : lp st1 (y + 1) S = (lp st1 y S) := by rw [en, st1, if_pos (gb_0 c_29)]
      rw [← e]
      rw [← e] at R
      exact smpI_loop I hN X m (y + 1) Q J1 _ (by omega) (by omega) R F
    refine V_aload_n X dX8_sampleItems_32 rfl rfl ?_
    apply V_get X dX8_sampleItems_33 fk_X8_204
    · exact at_it (hyb)
    · exact rfl
    refine V_if_eq X dX8_sampleItems_36 66 (by decide) (fun c_36 => ?_) (fun c_36 => ?_)
    · refine V_iinc X dX8_sampleItems_66 rfl (by decide) rfl (nI (y + 1)) (nI_1 y) ?_
      refine V_goto X dX8_sampleItems_69 2 (by decide) ?_
      have e : lp st1 (y + 1) S = (lp st1 y S) := by rw [en, st1, if_neg (gb_1 c_29), if_pos (by rw [c_36]; decide)]
      rw [← e]
      rw [← e] at R
      exact smpI_loop I hN X m (y + 1) Q J1 _ (by omega) (by omega) R F
    have h40 : ¬ (lp st1 y S).1 40 y ≤ 0 := fun z => c_36 (by
      rw [hmo.2.1.1, nI_pos0 (by have := hmo.2.1.2; omega)] at z
      rw [hmo.2.1.1, show nn ((lp st1 y S).1 40 y) = 0 by omega]
      rfl)
    refine V_aload_n X dX8_sampleItems_39 rfl rfl ?_
    apply V_get X dX8_sampleItems_40 fk_X8_35
    · exact at_root
    · exact rfl
    refine V_aload_n X dX8_sampleItems_43 rfl rfl ?_
    apply V_get X dX8_sampleItems_44 fk_X8_323
    · exact at_it (hyb)
    · exact rfl
    refine V_isub X dX8_sampleItems_47 ?_
    refine V_aload_n X dX8_sampleItems_48 rfl rfl ?_
    apply V_get X dX8_sampleItems_49 fk_X8_326
    · exact at_it (hyb)
    · exact rfl
    refine V_callS2 X dX8_sampleItems_52 mk_X8_329 st_X8_isMultiple (k_mult l _ _ (pos_n hper.2.1 hper.1 (by decide))) (Nat.le_of_ble_eq_true rfl) ⟨Nat.le_of_ble_eq_true rfl, Nat.le_of_ble_eq_true rfl⟩ ?_ ?_
    · exact ⟨by dsimp only [rmm]; omega, by dsimp only [rmm]; omega⟩
    rintro r I1 ⟨rfl, rfl⟩
    refine V_if_eq X dX8_sampleItems_55 66 (by decide) (fun c_55 => ?_) (fun c_55 => ?_)
    · have h_55 := bz_f c_55
      refine V_iinc X dX8_sampleItems_66 rfl (by decide) rfl (nI (y + 1)) (nI_1 y) ?_
      refine V_goto X dX8_sampleItems_69 2 (by decide) ?_
      have e : lp st1 (y + 1) S = (lp st1 y S) := by rw [en, st1, if_neg (gb_1 c_29), if_neg h40, if_neg h_55]
      rw [← e]
      rw [← e] at R
      exact smpI_loop I hN X m (y + 1) Q J1 _ (by omega) (by omega) R F
    have h_55 := bz_t c_55
    refine V_aload_n X dX8_sampleItems_58 rfl rfl ?_
    refine V_aload_n X dX8_sampleItems_59 rfl rfl ?_
    apply V_get X dX8_sampleItems_60 fk_X8_35
    · exact at_root
    · exact rfl
    have e : lp st1 (y + 1) S = (sampleS (lp st1 y S) y) := by rw [en, st1, if_neg (gb_1 c_29), if_neg h40, if_pos h_55]
    have uee : uc (lp st1 (y + 1) S) = uc (sampleS (lp st1 y S) y) ∧ us (lp st1 (y + 1) S) = us (sampleS (lp st1 y S) y) := by rw [e]; exact ⟨rfl, rfl⟩
    rw [e] at u3 u4
    have hus := u_sample (S := (lp st1 y S)) (i := y) (by omega) hmo.2.2
    have hQ := IT.1.2.1 y (by omega)
    apply V_callV1 X dX8_sampleItems_63 mk_X8_332 iv_X1_sample (k_sample l (S := (lp st1 y S)) (C := uc (sampleS (lp st1 y S) y) - uc (lp st1 y S)) (D := us (sampleS (lp st1 y S) y) - us (lp st1 y S)) hyb R (fun x hx => (IT.1.2.1 x (by have := (ct_nn IT.2.1.2.2.2.2.1 (by decide)).1; omega)).1) ⟨hQ.1, hQ.2.1, hQ.2.2.1, hper.2.2⟩ (IT.2.2.2.1.2 y hyb).2.2.2 rfl (fun z => by have := hus.2 z; omega))
    · exact at_it (hyb)
    · exact rfl
    · exact Nat.le_of_ble_eq_true rfl
    · exact ⟨Nat.le_of_ble_eq_true rfl, Nat.le_of_ble_eq_true rfl⟩
    · exact ⟨by dsimp only [rmm]; omega, by dsimp only [rmm]; omega⟩
    rintro r0 I1 ⟨rfl, Q2, J2, rfl, R2, F2⟩
    rw [← e] at u3 u4
    refine V_iinc X dX8_sampleItems_66 rfl (by decide) rfl (nI (y + 1)) (nI_1 y) ?_
    refine V_goto X dX8_sampleItems_69 2 (by decide) ?_
    rw [← e] at R2
    refine V_widen (c2 := uc (lp st1 (y + 1) S) - uc S) (s2 := us (lp st1 (y + 1) S) - us S) (by dsimp only [rmm]; omega) (by dsimp only [rmm]; omega) ?_
    rw [← e]
    exact smpI_loop I hN X m (y + 1) Q2 J2 _ (by omega) (by omega) R2 (F.tr F2)
set_option maxRecDepth 100000 in
set_option maxHeartbeats 4000000 in
theorem k_smpI (l : Launch) {S : St} {Q : Nat → List Nat} {J : aH} {c B N : Nat} (I : IN c B S) (hN : nn (S.1 32 0) = N) (R : RJ S Q J) : AM l yX8_sampleItems cX8_sampleItems 3 none (rmm 9 (uc (lp st1 N S) - uc S) (us (lp st1 N S) - us S) 235) [.ref rO] (ovc S J) (VQ (lp st1 N S) J) := by
  refine AM_of RX8 (by decide) rfl [some (.ref rO), none, none] rfl (Nat.le_of_ble_eq_true rfl) (fun Z X hNm => ?_)
  refine V_iconst (v := 0) X dX8_sampleItems_0 (by decide) ?_
  refine V_istore_n X dX8_sampleItems_1 (by decide) rfl ?_
  refine V_widen (c2 := uc (lp st1 0 S) - uc S) (s2 := us (lp st1 0 S) - us S) (Nat.zero_le _) (Nat.zero_le _) ?_
  exact smpI_loop I hN X (N + 1) 0 Q J none (by omega) (Nat.zero_le _) R FJ.rf
set_option maxRecDepth 100000 in
set_option maxHeartbeats 4000000 in
theorem clsT_loop {l : Launch} {Z : Zt} {S : St} {J : aH} {c B N : Nat} (I : IN c B S) (hN : nn (S.1 8 0) = N) (X : Fx Z l (rmm 5 0 0 109) cX8_closeTimedOut 3 RX8 none (VQ (lp st3 N S) J)) : ∀ (m y : Nat) (Q : Nat → List Nat) (J1 : aH) (o2 : Option Value), N - y < m → y ≤ N → RJ (lp st3 y S) Q J1 → FJ J J1 → V Z 3 (ovc (lp st3 y S) J1) [some (.ref rO), some (.int (nI y)), o2] [] 0 0 2
  | 0, _, _, _, _, _, _, _, _ => absurd (by assumption) (Nat.not_lt_zero _)
  | m + 1, y, Q, J1, o2, hm, hy, R, F => by
    obtain ⟨IT, e8, -, -⟩ := I.l3 y (by omega)
    have h12 := (ct_nn I.2.1.2.2.1 (by decide)).1
    have h3 := R.ml.2.2.1
    rw [e8, hN] at h3
    refine V_iload_n X dX8_closeTimedOut_2 rfl ?_
    refine V_aload_n X dX8_closeTimedOut_3 rfl rfl ?_
    apply V_get X dX8_closeTimedOut_4 fk_X8_19
    · exact at_root
    · exact rfl
    apply V_callV0 X dX8_closeTimedOut_7 mk_X8_59 iv_Jx4a65c_size_8abf5 (k_size l (x := nI N) (h3.ov rfl rfl) (by rw [rg_len]))
    · exact ll_o (h3.ov rfl rfl)
    · exact rfl
    · exact Nat.le_of_ble_eq_true rfl
    · exact ⟨Nat.le_of_ble_eq_true rfl, Nat.le_of_ble_eq_true rfl⟩
    · exact ⟨by dsimp only [rmm]; omega, by dsimp only [rmm]; omega⟩
    rintro r I1 ⟨rfl, rfl⟩
    refine V_icmp_ge X dX8_closeTimedOut_10 56 (by decide) (fun c_10 => ?_) (fun c_10 => ?_)
    · have hx2 : y = N := by
        rcases Nat.lt_or_ge y (N) with z | z
        · exact absurd c_10 (nI_ge z (by omega))
        · omega
      refine V_vret X dX8_closeTimedOut_56 ?_ ?_ ?_
      · dsimp only [rmm]; omega
      · dsimp only [rmm]; omega
      rw [← hx2]
      exact ⟨rfl, Q, J1, rfl, R, F⟩
    have hlt : y < N := by
      rcases Nat.lt_or_ge y (N) with z | z
      · exact z
      · exact absurd (nI_le z (by omega)) c_10
    refine V_aload_n X dX8_closeTimedOut_13 rfl rfl ?_
    apply V_get X dX8_closeTimedOut_14 fk_X8_19
    · exact at_root
    · exact rfl
    refine V_iload_n X dX8_closeTimedOut_17 rfl ?_
    apply V_callV1 X dX8_closeTimedOut_18 mk_X8_119 iv_Jx4a65c_get_915e3 (k_gti l h3 (by omega) rfl rfl hlt)
    · exact ll_o (h3.ov rfl rfl)
    · exact rfl
    · exact Nat.le_of_ble_eq_true rfl
    · exact ⟨Nat.le_of_ble_eq_true rfl, Nat.le_of_ble_eq_true rfl⟩
    · exact ⟨by dsimp only [rmm]; omega, by dsimp only [rmm]; omega⟩
    rintro r I1 ⟨rfl, rfl⟩
    have hyb : y < nn ((lp st3 y S).1 8 0) := by rw [e8]; omega
    have en : lp st3 (y + 1) S = st3 y (lp st3 y S) := rfl
    apply V_cast (ci := 7) X dX8_closeTimedOut_21 cl_X8_95
    · exact rfl
    · exact at_ses hyb
    refine V_astore_n X dX8_closeTimedOut_24 (by decide) rfl rfl ?_
    refine V_aload_n X dX8_closeTimedOut_25 rfl rfl ?_
    apply V_get X dX8_closeTimedOut_26 fk_X8_102
    · exact at_ses (hyb)
    · exact rfl
    refine V_iconst (v := 2) X dX8_closeTimedOut_29 (by decide) ?_
    refine V_icmp_eq X dX8_closeTimedOut_30 50 (by decide) (fun c_30 => ?_) (fun c_30 => ?_)
    · refine V_iinc X dX8_closeTimedOut_50 rfl (by decide) rfl (nI (y + 1)) (nI_1 y) ?_
      refine V_goto X dX8_closeTimedOut_53 2 (by decide) ?_
      have e : lp st3 (y + 1) S = (lp st3 y S) := by rw [en, st3, if_pos c_30]
      rw [← e]
      rw [← e] at R
      exact clsT_loop I hN X m (y + 1) Q J1 _ (by omega) (by omega) R F
    refine V_aload_n X dX8_closeTimedOut_33 rfl rfl ?_
    apply V_get X dX8_closeTimedOut_34 fk_X8_283
    · exact at_ses (hyb)
    · exact rfl
    refine V_aload_n X dX8_closeTimedOut_37 rfl rfl ?_
    apply V_get X dX8_closeTimedOut_38 fk_X8_35
    · exact at_root
    · exact rfl
    refine V_icmp_ne X dX8_closeTimedOut_41 50 (by decide) (fun c_41 => ?_) (fun c_41 => ?_)
    · refine V_iinc X dX8_closeTimedOut_50 rfl (by decide) rfl (nI (y + 1)) (nI_1 y) ?_
      refine V_goto X dX8_closeTimedOut_53 2 (by decide) ?_
      have e : lp st3 (y + 1) S = (lp st3 y S) := by rw [en, st3, if_neg c_30, if_neg c_41]
      rw [← e]
      rw [← e] at R
      exact clsT_loop I hN X m (y + 1) Q J1 _ (by omega) (by omega) R F
    refine V_aload_n X dX8_closeTimedOut_44 rfl rfl ?_
    refine V_aload_n X dX8_closeTimedOut_45 rfl rfl ?_
    have hix : isSes (lp st3 y S) (nI y) := lt_ix (x := (lp st3 y S).1 8 0) (n := y) (b := 12) ⟨(ct_nn IT.2.1.2.2.1 (by decide)).2, (ct_nn IT.2.1.2.2.1 (by decide)).1⟩ (by decide) hyb
    have hsh := k_shut l (S := (lp st3 y S)) (J := J1) (s := nI y) hix IT.2.1 IT.2.2.2.1 R
    rw [nnI (by omega)] at hsh
    apply V_callV1 X dX8_closeTimedOut_46 mk_X8_115 iv_X8_shut (hsh)
    · exact at_root
    · exact rfl
    · exact Nat.le_of_ble_eq_true rfl
    · exact ⟨Nat.le_of_ble_eq_true rfl, Nat.le_of_ble_eq_true rfl⟩
    · exact ⟨by dsimp only [rmm]; omega, by dsimp only [rmm]; omega⟩
    rintro r0 I1 ⟨rfl, Q2, J2, rfl, R2, F2⟩
    refine V_pop X dX8_closeTimedOut_49 rfl ?_
    refine V_iinc X dX8_closeTimedOut_50 rfl (by decide) rfl (nI (y + 1)) (nI_1 y) ?_
    refine V_goto X dX8_closeTimedOut_53 2 (by decide) ?_
    have e : lp st3 (y + 1) S = (shutS (lp st3 y S) (nI y)).1 := by rw [en, st3, if_neg c_30, if_pos c_41]
    rw [← e]
    rw [← e] at R2
    exact clsT_loop I hN X m (y + 1) Q2 J2 _ (by omega) (by omega) R2 (F.tr F2)
set_option maxRecDepth 100000 in
set_option maxHeartbeats 4000000 in
theorem k_clsT (l : Launch) {S : St} {Q : Nat → List Nat} {J : aH} {c B N : Nat} (I : IN c B S) (hN : nn (S.1 8 0) = N) (R : RJ S Q J) : AM l yX8_closeTimedOut cX8_closeTimedOut 3 none (rmm 5 0 0 109) [.ref rO] (ovc S J) (VQ (lp st3 N S) J) := by
  refine AM_of RX8 (by decide) rfl [some (.ref rO), none, none] rfl (Nat.le_of_ble_eq_true rfl) (fun Z X hNm => ?_)
  refine V_iconst (v := 0) X dX8_closeTimedOut_0 (by decide) ?_
  refine V_istore_n X dX8_closeTimedOut_1 (by decide) rfl ?_
  exact clsT_loop I hN X (N + 1) 0 Q J none (by omega) (Nat.zero_le _) R FJ.rf
set_option maxRecDepth 100000 in
set_option maxHeartbeats 4000000 in
theorem tick9_loop {l : Launch} {Z : Zt} {S : St} {J : aH} {c B N : Nat} {n had : Int32} (I : IN c B S) (hB : B + 20 * N + 20 < 2 ^ 31) (hN : N ≤ 1000) (hn : n = nI N) (hh : had = S.1 48 0) (eo : op_tick S n = (tkS S N, (tkS S N).1 48 0 - S.1 48 0)) (X : Fx Z l (rmm 11 (uc (op_tick S n).1 - uc S) (us (op_tick S n).1 - us S) 280) cX8_tick 4 RX8 (some .int) (RES (op_tick S n) J)) : ∀ (m k : Nat) (Q : Nat → List Nat) (J1 : aH), N - k < m → k ≤ N → RJ (tkS S k) Q J1 → FJ J J1 → V Z 4 (ovc (tkS S k) J1) [some (.ref rO), some (.int n), some (.int had), some (.int (nI k))] [] (uc (tkS S k) - uc S) (us (tkS S k) - us S) 46
  | 0, _, _, _, _, _, _, _ => absurd (by assumption) (Nat.not_lt_zero _)
  | m + 1, k, Q, J1, hm, hk, R, F => by
    have IT := I.tk k (by omega)
    have u1 := I.mtk (n := 0) k (by omega)
    rw [Nat.zero_add] at u1
    have u1c : uc S ≤ uc (tkS S k) := u1.1
    have u1s : us S ≤ us (tkS S k) := u1.2
    have u2 := I.mtk (n := k) (N - k) (by omega)
    rw [show k + (N - k) = N by omega] at u2
    have eo1 : (op_tick S n).1 = tkS S N := by rw [eo]
    refine V_iload_n X dX8_tick_46 rfl ?_
    refine V_iload_n X dX8_tick_47 rfl ?_
    rw [hn]
    refine V_icmp_ge X dX8_tick_48 79 (by decide) (fun c_48 => ?_) (fun c_48 => ?_)
    · have hx2 : k = N := by
        rcases Nat.lt_or_ge k (N) with z | z
        · exact absurd c_48 (nI_ge z (by omega))
        · omega
      refine V_aload_n X dX8_tick_79 rfl rfl ?_
      apply V_get X dX8_tick_80 fk_X8_28
      · exact at_root
      · exact rfl
      have cT := IT.2.1
      apply V_callV0 X dX8_tick_83 mk_X8_59 iv_Jx4a65c_size_8abf5 (k_szr l R.ml.2.2.2.2.2 cT.2.2.2.2.2 (by decide) rfl rfl)
      · exact ll_o (R.ml.2.2.2.2.2.ov rfl rfl)
      · exact rfl
      · exact Nat.le_of_ble_eq_true rfl
      · exact ⟨Nat.le_of_ble_eq_true rfl, Nat.le_of_ble_eq_true rfl⟩
      · exact ⟨by dsimp only [rmm]; rw [eo1]; omega, by dsimp only [rmm]; rw [eo1]; omega⟩
      rintro r I1 ⟨rfl, rfl⟩
      refine V_iload_n X dX8_tick_86 rfl ?_
      refine V_isub X dX8_tick_87 ?_
      refine V_iret X dX8_tick_88 ?_ ?_ ?_ ?_
      · exact rfl
      · dsimp only [rmm]; rw [eo1]; omega
      · dsimp only [rmm]; rw [eo1]; omega
      rw [hh]
      refine RES.of (q := op_tick S n) ?_ R F
      rw [eo, hx2]
    have hlt : k < N := by
      rcases Nat.lt_or_ge k (N) with z | z
      · exact z
      · exact absurd (nI_le z (by omega)) c_48
    refine V_aload_n X dX8_tick_51 rfl rfl ?_
    refine V_dup X dX8_tick_52 rfl ?_
    apply V_get X dX8_tick_53 fk_X8_35
    · exact at_root
    · exact rfl
    refine V_iconst (v := 1) X dX8_tick_56 (by decide) ?_
    refine V_iadd X dX8_tick_57 ?_
    refine P1_7 X dX8_tick_58 fk_X8_35 ?_
    refine V_aload_n X dX8_tick_61 rfl rfl ?_
    have tA := IT.tA
    have tB := IT.tB
    have tC := IT.tC (by omega)
    have tS := IT.step (by omega)
    have u3 := I.mtk (n := k + 1) (N - (k + 1)) (by omega)
    rw [show k + 1 + (N - (k + 1)) = N by omega] at u3
    have en : tkS S (k + 1) = stepS (tkS S k) := rfl
    rw [en] at u3
    have x15 : nn ((sB (tkS S k)).1 15 0) = nn ((tkS S k).1 15 0) := congrArg nn (sB_n (by decide))
    have x8 : nn ((sC (tkS S k)).1 8 0) = nn ((tkS S k).1 8 0) := congrArg nn (sC_n (by decide))
    have uBC : uc (sB (tkS S k)) ≤ uc (sC (tkS S k)) ∧ us (sB (tkS S k)) ≤ us (sC (tkS S k)) := by
      have h := tB.1.m2 (by omega) (y := 0) (nn ((tkS S k).1 15 0)) (by rw [x15]; omega)
      rw [Nat.zero_add] at h
      exact h
    change V _ _ (ovc (sA (tkS S k)) J1) _ _ _ _ _
    apply V_callV0 X dX8_tick_62 mk_X8_86 iv_X8_sampleItems (k_smpI l (S := sA (tkS S k)) (N := nn ((tkS S k).1 32 0)) tA.1 rfl R.cg)
    · exact at_root
    · exact rfl
    · exact Nat.le_of_ble_eq_true rfl
    · exact ⟨Nat.le_of_ble_eq_true rfl, Nat.le_of_ble_eq_true rfl⟩
    · exact ⟨by dsimp only [rmm]; rw [eo1]; change _ + (uc (sB (tkS S k)) - uc (sA (tkS S k))) ≤ _; omega, by dsimp only [rmm]; rw [eo1]; change _ + (us (sB (tkS S k)) - us (sA (tkS S k))) ≤ _; omega⟩
    rintro r0 I1 ⟨rfl, Q2, J2, rfl, R2, F2⟩
    change V _ _ (ovc (sB (tkS S k)) J2) _ _ _ _ _
    refine V_aload_n X dX8_tick_65 rfl rfl ?_
    apply V_callV0 X dX8_tick_66 mk_X8_89 iv_X8_serveSubscriptions (k_serve l (S := sB (tkS S k)) (N := nn ((tkS S k).1 15 0)) tB.1 (by omega) x15 R2)
    · exact at_root
    · exact rfl
    · exact Nat.le_of_ble_eq_true rfl
    · exact ⟨Nat.le_of_ble_eq_true rfl, Nat.le_of_ble_eq_true rfl⟩
    · exact ⟨by dsimp only [rmm]; rw [eo1]; change _ + (uc (sB (tkS S k)) - uc (sA (tkS S k))) + (uc (sC (tkS S k)) - uc (sB (tkS S k))) ≤ _; omega, by dsimp only [rmm]; rw [eo1]; change _ + (us (sB (tkS S k)) - us (sA (tkS S k))) + (us (sC (tkS S k)) - us (sB (tkS S k))) ≤ _; omega⟩
    rintro r0 I1 ⟨rfl, Q3, J3, rfl, R3, F3⟩
    change V _ _ (ovc (sC (tkS S k)) J3) _ _ _ _ _
    refine V_aload_n X dX8_tick_69 rfl rfl ?_
    apply V_callV0 X dX8_tick_70 mk_X8_92 iv_X8_closeTimedOut (k_clsT l (S := sC (tkS S k)) (N := nn ((tkS S k).1 8 0)) tC.1 x8 R3)
    · exact at_root
    · exact rfl
    · exact Nat.le_of_ble_eq_true rfl
    · exact ⟨Nat.le_of_ble_eq_true rfl, Nat.le_of_ble_eq_true rfl⟩
    · exact ⟨by dsimp only [rmm]; rw [eo1]; change _ + (uc (sB (tkS S k)) - uc (sA (tkS S k))) + (uc (sC (tkS S k)) - uc (sB (tkS S k))) + 0 ≤ _; omega, by dsimp only [rmm]; rw [eo1]; change _ + (us (sB (tkS S k)) - us (sA (tkS S k))) + (us (sC (tkS S k)) - us (sB (tkS S k))) + 0 ≤ _; omega⟩
    rintro r0 I1 ⟨rfl, Q4, J4, rfl, R4, F4⟩
    refine V_widen (c2 := uc (tkS S (k + 1)) - uc S) (s2 := us (tkS S (k + 1)) - us S) (by rw [en]; change _ + (uc (sB (tkS S k)) - uc (sA (tkS S k))) + (uc (sC (tkS S k)) - uc (sB (tkS S k))) + 0 ≤ _; omega) (by rw [en]; change _ + (us (sB (tkS S k)) - us (sA (tkS S k))) + (us (sC (tkS S k)) - us (sB (tkS S k))) + 0 ≤ _; omega) ?_
    refine V_iinc X dX8_tick_73 rfl (by decide) rfl (nI (k + 1)) (nI_1 k) ?_
    refine V_goto X dX8_tick_76 46 (by decide) ?_
    change V _ _ (ovc (tkS S (k + 1)) J4) _ _ _ _ _
    rw [← hn]
    exact tick9_loop I hB hN hn hh eo X m (k + 1) Q4 J4 (by omega) (by omega) R4 (((F.tr F2).tr F3).tr F4)
set_option maxRecDepth 100000 in
set_option maxHeartbeats 4000000 in
theorem k_tick (l : Launch) {S : St} {Q : Nat → List Nat} {J : aH} {c B : Nat} {n : Int32} (I : IN c B S) (hB : B + 20020 < 2 ^ 31) (R : RJ S Q J) : AM l yX8_tick cX8_tick 4 (some .int) (rmm 11 (uc (op_tick S n).1 - uc S) (us (op_tick S n).1 - us S) 280) [.ref rO, .int n] (ovc S J) (RES (op_tick S n) J) := by
  refine AM_of RX8 (by decide) rfl [some (.ref rO), some (.int n), none, none] rfl (Nat.le_of_ble_eq_true rfl) (fun Z X hNm => ?_)
  refine V_iload_n X dX8_tick_0 rfl ?_
  refine V_iconst (v := 1) X dX8_tick_1 (by decide) ?_
  refine V_sipush (v := 1000) X dX8_tick_2 (by decide) ?_
  refine V_callS3 X dX8_tick_5 mk_X8_51 st_X8_isWithin (k_within l n 1 1000) (Nat.le_of_ble_eq_true rfl) ⟨Nat.le_of_ble_eq_true rfl, Nat.le_of_ble_eq_true rfl⟩ ?_ ?_
  · exact ⟨by dsimp only [rmm]; omega, by dsimp only [rmm]; omega⟩
  rintro r I1 ⟨rfl, rfl⟩
  refine V_if_ne X dX8_tick_8 18 (by decide) (fun c_8 => ?_) (fun c_8 => ?_)
  · have h_8 := bz_t c_8
    refine V_aload_n X dX8_tick_18 rfl rfl ?_
    apply V_get X dX8_tick_19 fk_X8_35
    · exact at_root
    · exact rfl
    refine V_iload_n X dX8_tick_22 rfl ?_
    refine V_iadd X dX8_tick_23 ?_
    refine V_ldc X dX8_tick_24 kc_X8_85 ?_
    refine V_icmp_le X dX8_tick_26 36 (by decide) (fun c_26 => ?_) (fun c_26 => ?_)
    · refine V_aload_n X dX8_tick_36 rfl rfl ?_
      apply V_get X dX8_tick_37 fk_X8_28
      · exact at_root
      · exact rfl
      apply V_callV0 X dX8_tick_40 mk_X8_59 iv_Jx4a65c_size_8abf5 (k_szr l R.ml.2.2.2.2.2 I.2.1.2.2.2.2.2 (by decide) rfl rfl)
      · exact ll_o (R.ml.2.2.2.2.2.ov rfl rfl)
      · exact rfl
      · exact Nat.le_of_ble_eq_true rfl
      · exact ⟨Nat.le_of_ble_eq_true rfl, Nat.le_of_ble_eq_true rfl⟩
      · exact ⟨by dsimp only [rmm]; omega, by dsimp only [rmm]; omega⟩
      rintro r I1 ⟨rfl, rfl⟩
      refine V_istore_n X dX8_tick_43 (by decide) rfl ?_
      refine V_iconst (v := 0) X dX8_tick_44 (by decide) ?_
      refine V_istore_n X dX8_tick_45 (by decide) rfl ?_
      obtain ⟨N, hN1, hN2, hn⟩ := rng_of (a := 1) (b := 1000) rfl rfl (by decide) (by decide) h_8
      have hnn : nn n = N := by rw [hn]; exact nnI (by omega)
      have eo : op_tick S n = (tkS S N, (tkS S N).1 48 0 - S.1 48 0) := by rw [op_tick, if_pos h_8, if_pos c_26, hnn]
      refine V_widen (c2 := uc (tkS S 0) - uc S) (s2 := us (tkS S 0) - us S) (Nat.zero_le _) (Nat.zero_le _) ?_
      exact tick9_loop I (by omega) hN2 hn rfl eo X (N + 1) 0 Q J (by omega) (Nat.zero_le _) R FJ.rf
    refine V_aload_n X dX8_tick_29 rfl rfl ?_
    refine V_bipush (v := (-8)) X dX8_tick_30 (by decide) ?_
    apply V_callV1 X dX8_tick_32 mk_X8_55 iv_X8_refuse (k_refuse l (S := S) (by unfold vp_in; decide) (by decide))
    · exact at_root
    · exact rfl
    · exact Nat.le_of_ble_eq_true rfl
    · exact ⟨Nat.le_of_ble_eq_true rfl, Nat.le_of_ble_eq_true rfl⟩
    · exact ⟨by dsimp only [rmm]; omega, by dsimp only [rmm]; omega⟩
    rintro r I1 ⟨rfl, rfl⟩
    refine V_iret X dX8_tick_35 ?_ ?_ ?_ ?_
    · exact rfl
    · dsimp only [rmm]; omega
    · dsimp only [rmm]; omega
    exact RES.of (q := op_tick S n) (by rw [op_tick, if_pos h_8, if_neg c_26] <;> rfl) R.cg FJ.rf
  have h_8 := bz_f c_8
  refine V_aload_n X dX8_tick_11 rfl rfl ?_
  refine V_bipush (v := (-7)) X dX8_tick_12 (by decide) ?_
  apply V_callV1 X dX8_tick_14 mk_X8_55 iv_X8_refuse (k_refuse l (S := S) (by unfold vp_in; decide) (by decide))
  · exact at_root
  · exact rfl
  · exact Nat.le_of_ble_eq_true rfl
  · exact ⟨Nat.le_of_ble_eq_true rfl, Nat.le_of_ble_eq_true rfl⟩
  · exact ⟨by dsimp only [rmm]; omega, by dsimp only [rmm]; omega⟩
  rintro r I1 ⟨rfl, rfl⟩
  refine V_iret X dX8_tick_17 ?_ ?_ ?_ ?_
  · exact rfl
  · dsimp only [rmm]; omega
  · dsimp only [rmm]; omega
  exact RES.of (q := op_tick S n) (by rw [op_tick, if_neg h_8] <;> rfl) R.cg FJ.rf
