theorem mul_ix {k : Nat} {x i c : Int32} (hc : c = nI k) (hx : x = nI (nn x)) (hi : i = nI (nn i)) (h1 : k * nn x + nn i < 2 ^ 31) : nn (c * x + i) = k * nn x + nn i := by
  have e : c * x + i = nI (k * nn x + nn i) := by
    rw [hc]
    generalize nn x = a at *
    generalize nn i = b at *
    rw [hx, hi, pk_mul, nI_add]
  rw [e]
  exact nnI h1
theorem num_b {x y : Int32} (h : x = 0 ∨ x = 1) : (if x = 0 then (0 : Int32) else 1) = x := by
  rcases h with rfl | rfl <;> rfl
set_option maxRecDepth 100000 in
set_option maxHeartbeats 4000000 in
theorem k_mail (l : Launch) {S : St} {Q : Nat → List Nat} {J : aH} {s i : Int32} (c : CT S) (R : RJ S Q J) (ma : MA S) : AM l yX8_mail cX8_mail 4 (some .int) (rmm 4 0 0 85) [.ref rO, .int s, .int i] (ovc S J) (fun r I' => r = some (.int (q_mail S s i)) ∧ I' = ovc S J) := by
  refine AM_of RX8 (by decide) rfl [some (.ref rO), some (.int s), some (.int i), none] rfl (Nat.le_of_ble_eq_true rfl) (fun Z X hNm => ?_)
  refine V_aload_n X dX8_mail_0 rfl rfl ?_
  refine V_iload_n X dX8_mail_1 rfl ?_
  apply V_callV1 X dX8_mail_2 mk_X8_98 iv_X8_sessionAt (k_sesAt l c R.ml)
  · exact at_root
  · exact rfl
  · exact Nat.le_of_ble_eq_true rfl
  · exact ⟨Nat.le_of_ble_eq_true rfl, Nat.le_of_ble_eq_true rfl⟩
  · exact ⟨by dsimp only [rmm]; omega, by dsimp only [rmm]; omega⟩
  rintro r I1 ⟨rfl, ⟨hs, rfl⟩ | ⟨hs, rfl⟩⟩
  · have hi := (ses_ix hs).2
    have hm := ma _ hi
    have h22 := R.mail hi
    have h12 := (ct_nn c.2.2.1 (by decide)).1
    refine V_astore_n X dX8_mail_5 (by decide) rfl rfl ?_
    refine V_aload_n X dX8_mail_6 rfl rfl ?_
    refine V_ifnonnull X dX8_mail_7 12 (by decide) ?_
    refine V_iload_n X dX8_mail_12 rfl ?_
    refine V_if_lt X dX8_mail_13 44 (by decide) (fun c_13 => ?_) (fun c_13 => ?_)
    · refine V_bipush (v := (-9)) X dX8_mail_44 (by decide) ?_
      refine V_iret X dX8_mail_46 ?_ ?_ ?_ ?_
      · exact rfl
      · dsimp only [rmm]; omega
      · dsimp only [rmm]; omega
      exact ⟨by rw [q_mail, if_pos hs, if_neg (fun q => q.1 c_13)], rfl⟩
    refine V_iload_n X dX8_mail_16 rfl ?_
    refine V_aload_n X dX8_mail_17 rfl rfl ?_
    apply V_get X dX8_mail_18 fk_X8_246
    · exact at_ses (by assumption)
    · exact rfl
    apply V_callV0 X dX8_mail_21 mk_X8_59 iv_Jx4a65c_size_8abf5 (k_size l (x := S.1 13 (nn s)) (h22.ov rfl rfl) (by rw [mlL_len]; exact hm.1.1.symm))
    · exact ll_o (h22.ov rfl rfl)
    · exact rfl
    · exact Nat.le_of_ble_eq_true rfl
    · exact ⟨Nat.le_of_ble_eq_true rfl, Nat.le_of_ble_eq_true rfl⟩
    · exact ⟨by dsimp only [rmm]; omega, by dsimp only [rmm]; omega⟩
    rintro r I1 ⟨rfl, rfl⟩
    refine V_icmp_ge X dX8_mail_24 44 (by decide) (fun c_24 => ?_) (fun c_24 => ?_)
    · refine V_bipush (v := (-9)) X dX8_mail_44 (by decide) ?_
      refine V_iret X dX8_mail_46 ?_ ?_ ?_ ?_
      · exact rfl
      · dsimp only [rmm]; omega
      · dsimp only [rmm]; omega
      exact ⟨by rw [q_mail, if_pos hs, if_neg (fun q => le_ge c_24 q.2)], rfl⟩
    have hlt : i < S.1 13 (nn s) := Decidable.byContradiction fun q => c_24 (ge_le q)
    have hx := jx_of c_13 hlt
    have hy := hm.2 _ hx.2
    refine V_aload_n X dX8_mail_27 rfl rfl ?_
    apply V_get X dX8_mail_28 fk_X8_246
    · exact at_ses (by assumption)
    · exact rfl
    refine V_iload_n X dX8_mail_31 rfl ?_
    apply V_callV1 X dX8_mail_32 mk_X8_119 iv_Jx4a65c_get_915e3 (k_get l (h22.ov rfl rfl) (by rw [mlL_len]; exact hx.2) hx.1 (by rw [mlL_len]; have := hm.1.2; omega) (mlL_at hx.2))
    · exact ll_o (h22.ov rfl rfl)
    · exact rfl
    · exact Nat.le_of_ble_eq_true rfl
    · exact ⟨Nat.le_of_ble_eq_true rfl, Nat.le_of_ble_eq_true rfl⟩
    · exact ⟨by dsimp only [rmm]; omega, by dsimp only [rmm]; omega⟩
    rintro r I1 ⟨rfl, rfl⟩
    apply V_cast (ci := 3) X dX8_mail_35 cl_X8_250
    · exact rfl
    · exact at_ms hy.2
    apply V_get X dX8_mail_38 fk_X8_249
    · exact at_ms (hy.2)
    · exact rfl
    refine V_goto X dX8_mail_41 46 (by decide) ?_
    refine V_iret X dX8_mail_46 ?_ ?_ ?_ ?_
    · exact rfl
    · dsimp only [rmm]; omega
    · dsimp only [rmm]; omega
    refine ⟨?_, rfl⟩
    rw [q_mail, if_pos hs, if_pos ⟨c_13, hlt⟩, mul_ix (k := 1200) (c := 1200) rfl (ses_ix hs).1 hx.1 (by have := hm.1.2; omega), ← hy.1.1]
  refine V_astore_n X dX8_mail_5 (by decide) rfl rfl ?_
  refine V_aload_n X dX8_mail_6 rfl rfl ?_
  refine V_ifnonnullN X dX8_mail_7 ?_
  refine V_iconst (v := (-1)) X dX8_mail_10 (by decide) ?_
  refine V_iret X dX8_mail_11 ?_ ?_ ?_ ?_
  · exact rfl
  · dsimp only [rmm]; omega
  · dsimp only [rmm]; omega
  exact ⟨by rw [q_mail, if_neg hs], rfl⟩
set_option maxRecDepth 100000 in
set_option maxHeartbeats 4000000 in
theorem k_message (l : Launch) {S : St} {Q : Nat → List Nat} {J : aH} {s x : Int32} (c : CT S) (R : RJ S Q J) : AM l yX8_message cX8_message 4 (some .int) (rmm 4 0 0 85) [.ref rO, .int s, .int x] (ovc S J) (fun r I' => r = some (.int (q_message S s x)) ∧ I' = ovc S J) := by
  refine AM_of RX8 (by decide) rfl [some (.ref rO), some (.int s), some (.int x), none] rfl (Nat.le_of_ble_eq_true rfl) (fun Z X hNm => ?_)
  refine V_aload_n X dX8_message_0 rfl rfl ?_
  refine V_iload_n X dX8_message_1 rfl ?_
  apply V_callV1 X dX8_message_2 mk_X8_254 iv_X8_messageAt (k_msAt l c R.ml)
  · exact at_root
  · exact rfl
  · exact Nat.le_of_ble_eq_true rfl
  · exact ⟨Nat.le_of_ble_eq_true rfl, Nat.le_of_ble_eq_true rfl⟩
  · exact ⟨by dsimp only [rmm]; omega, by dsimp only [rmm]; omega⟩
  rintro r I1 ⟨rfl, ⟨hs, rfl⟩ | ⟨hs, rfl⟩⟩
  · have hi := (ms_ix hs).2
    obtain ⟨hm, f, hf, -⟩ := R.2.2.2.2.1 _ hi
    refine V_astore_n X dX8_message_5 (by decide) rfl rfl ?_
    refine V_aload_n X dX8_message_6 rfl rfl ?_
    refine V_ifnonnull X dX8_message_7 13 (by decide) ?_
    refine V_iload_n X dX8_message_13 rfl ?_
    by_cases t_14_0 : x = 0
    · refine V_tableIn (off := 38) X dX8_message_14 (by rw [t_14_0]; decide) (by rw [t_14_0]; decide) (by rw [t_14_0]; rfl) 52 (by decide) ?_
      refine V_aload_n X dX8_message_52 rfl rfl ?_
      apply V_get X dX8_message_53 fk_X8_257
      · exact at_ms (by assumption)
      · exact rfl
      refine V_iret X dX8_message_56 ?_ ?_ ?_ ?_
      · exact rfl
      · dsimp only [rmm]; omega
      · dsimp only [rmm]; omega
      refine ⟨?_, rfl⟩
      rw [q_message, if_pos hs, if_pos t_14_0]
    by_cases t_14_1 : x = 1
    · refine V_tableIn (off := 43) X dX8_message_14 (by rw [t_14_1]; decide) (by rw [t_14_1]; decide) (by rw [t_14_1]; rfl) 57 (by decide) ?_
      refine V_aload_n X dX8_message_57 rfl rfl ?_
      apply V_get X dX8_message_58 fk_X8_260
      · exact at_ms (by assumption)
      · exact rfl
      refine V_iret X dX8_message_61 ?_ ?_ ?_ ?_
      · exact rfl
      · dsimp only [rmm]; omega
      · dsimp only [rmm]; omega
      refine ⟨?_, rfl⟩
      rw [q_message, if_pos hs, if_neg t_14_0, if_pos t_14_1]
    by_cases t_14_2 : x = 2
    · refine V_tableIn (off := 48) X dX8_message_14 (by rw [t_14_2]; decide) (by rw [t_14_2]; decide) (by rw [t_14_2]; rfl) 62 (by decide) ?_
      refine V_aload_n X dX8_message_62 rfl rfl ?_
      apply V_get X dX8_message_63 fk_X8_261
      · exact at_ms (by assumption)
      · exact rfl
      apply V_alen (t := 4) X dX8_message_66 (fun _ => rfl)
      · exact (ovc_k rfl).trans hf
      refine V_iret X dX8_message_67 ?_ ?_ ?_ ?_
      · exact rfl
      · dsimp only [rmm]; omega
      · dsimp only [rmm]; omega
      refine ⟨?_, rfl⟩
      rw [q_message, if_pos hs, if_neg t_14_0, if_neg t_14_1, if_pos t_14_2]
      rw [← hm.1]
    by_cases t_14_3 : x = 3
    · refine V_tableIn (off := 54) X dX8_message_14 (by rw [t_14_3]; decide) (by rw [t_14_3]; decide) (by rw [t_14_3]; rfl) 68 (by decide) ?_
      refine V_aload_n X dX8_message_68 rfl rfl ?_
      apply V_get X dX8_message_69 fk_X8_264
      · exact at_ms (by assumption)
      · exact rfl
      refine V_callS1 X dX8_message_72 mk_X8_167 st_X8_asNumber (k_num l (S.1 52 (nn s))) (Nat.le_of_ble_eq_true rfl) ⟨Nat.le_of_ble_eq_true rfl, Nat.le_of_ble_eq_true rfl⟩ ?_ ?_
      · exact ⟨by dsimp only [rmm]; omega, by dsimp only [rmm]; omega⟩
      rintro r I1 ⟨rfl, rfl⟩
      refine V_iret X dX8_message_75 ?_ ?_ ?_ ?_
      · exact rfl
      · dsimp only [rmm]; omega
      · dsimp only [rmm]; omega
      refine ⟨?_, rfl⟩
      rw [q_message, if_pos hs, if_neg t_14_0, if_neg t_14_1, if_neg t_14_2, if_pos t_14_3]
    by_cases t_14_4 : x = 4
    · refine V_tableIn (off := 62) X dX8_message_14 (by rw [t_14_4]; decide) (by rw [t_14_4]; decide) (by rw [t_14_4]; rfl) 76 (by decide) ?_
      refine V_aload_n X dX8_message_76 rfl rfl ?_
      apply V_get X dX8_message_77 fk_X8_267
      · exact at_ms (by assumption)
      · exact rfl
      refine V_iret X dX8_message_80 ?_ ?_ ?_ ?_
      · exact rfl
      · dsimp only [rmm]; omega
      · dsimp only [rmm]; omega
      refine ⟨?_, rfl⟩
      rw [q_message, if_pos hs, if_neg t_14_0, if_neg t_14_1, if_neg t_14_2, if_neg t_14_3, if_pos t_14_4]
    by_cases t_14_5 : x = 5
    · refine V_tableIn (off := 67) X dX8_message_14 (by rw [t_14_5]; decide) (by rw [t_14_5]; decide) (by rw [t_14_5]; rfl) 81 (by decide) ?_
      refine V_aload_n X dX8_message_81 rfl rfl ?_
      apply V_get X dX8_message_82 fk_X8_268
      · exact at_ms (by assumption)
      · exact rfl
      refine V_callS1 X dX8_message_85 mk_X8_167 st_X8_asNumber (k_num l (S.1 54 (nn s))) (Nat.le_of_ble_eq_true rfl) ⟨Nat.le_of_ble_eq_true rfl, Nat.le_of_ble_eq_true rfl⟩ ?_ ?_
      · exact ⟨by dsimp only [rmm]; omega, by dsimp only [rmm]; omega⟩
      rintro r I1 ⟨rfl, rfl⟩
      refine V_iret X dX8_message_88 ?_ ?_ ?_ ?_
      · exact rfl
      · dsimp only [rmm]; omega
      · dsimp only [rmm]; omega
      refine ⟨?_, rfl⟩
      rw [q_message, if_pos hs, if_neg t_14_0, if_neg t_14_1, if_neg t_14_2, if_neg t_14_3, if_neg t_14_4, if_pos t_14_5]
    have n_14_0 : (x).toInt ≠ 0 := fun q => t_14_0 ((fa_eq _ _).mpr (q.trans rfl))
    have n_14_1 : (x).toInt ≠ 1 := fun q => t_14_1 ((fa_eq _ _).mpr (q.trans rfl))
    have n_14_2 : (x).toInt ≠ 2 := fun q => t_14_2 ((fa_eq _ _).mpr (q.trans rfl))
    have n_14_3 : (x).toInt ≠ 3 := fun q => t_14_3 ((fa_eq _ _).mpr (q.trans rfl))
    have n_14_4 : (x).toInt ≠ 4 := fun q => t_14_4 ((fa_eq _ _).mpr (q.trans rfl))
    have n_14_5 : (x).toInt ≠ 5 := fun q => t_14_5 ((fa_eq _ _).mpr (q.trans rfl))
    refine V_tableOut X dX8_message_14 (by omega) 89 (by decide) ?_
    refine V_bipush (v := (-9)) X dX8_message_89 (by decide) ?_
    refine V_iret X dX8_message_91 ?_ ?_ ?_ ?_
    · exact rfl
    · dsimp only [rmm]; omega
    · dsimp only [rmm]; omega
    refine ⟨?_, rfl⟩
    rw [q_message, if_pos hs, if_neg t_14_0, if_neg t_14_1, if_neg t_14_2, if_neg t_14_3, if_neg t_14_4, if_neg t_14_5]
  refine V_astore_n X dX8_message_5 (by decide) rfl rfl ?_
  refine V_aload_n X dX8_message_6 rfl rfl ?_
  refine V_ifnonnullN X dX8_message_7 ?_
  refine V_bipush (v := (-9)) X dX8_message_10 (by decide) ?_
  refine V_iret X dX8_message_12 ?_ ?_ ?_ ?_
  · exact rfl
  · dsimp only [rmm]; omega
  · dsimp only [rmm]; omega
  exact ⟨by rw [q_message, if_neg hs], rfl⟩
set_option maxRecDepth 100000 in
set_option maxHeartbeats 4000000 in
theorem k_entry (l : Launch) {S : St} {Q : Nat → List Nat} {J : aH} {s i x : Int32} (c : CT S) (R : RJ S Q J) (bt : BT S) : AM l yX8_entry cX8_entry 6 (some .long) (rmm 4 0 0 85) [.ref rO, .int s, .int i, .int x] (ovc S J) (fun r I' => r = some (.long (q_entry S s i x)) ∧ I' = ovc S J) := by
  refine AM_of RX8 (by decide) rfl [some (.ref rO), some (.int s), some (.int i), some (.int x), none, none] rfl (Nat.le_of_ble_eq_true rfl) (fun Z X hNm => ?_)
  refine V_aload_n X dX8_entry_0 rfl rfl ?_
  refine V_iload_n X dX8_entry_1 rfl ?_
  apply V_callV1 X dX8_entry_2 mk_X8_254 iv_X8_messageAt (k_msAt l c R.ml)
  · exact at_root
  · exact rfl
  · exact Nat.le_of_ble_eq_true rfl
  · exact ⟨Nat.le_of_ble_eq_true rfl, Nat.le_of_ble_eq_true rfl⟩
  · exact ⟨by dsimp only [rmm]; omega, by dsimp only [rmm]; omega⟩
  rintro r I1 ⟨rfl, ⟨hs, rfl⟩ | ⟨hs, rfl⟩⟩
  · have hi := (ms_ix hs).2
    obtain ⟨hm, f, hf, hen⟩ := R.2.2.2.2.1 _ hi
    have h512 := (ct_nn c.2.2.2.2.2 (by decide)).1
    have hm2 := hm.2
    refine V_astore X dX8_entry_5 (by decide) rfl rfl ?_
    refine V_aload X dX8_entry_7 rfl rfl ?_
    refine V_ifnull X dX8_entry_9 ?_
    refine V_iload_n X dX8_entry_12 rfl ?_
    refine V_if_lt X dX8_entry_13 26 (by decide) (fun c_13 => ?_) (fun c_13 => ?_)
    · refine V_ldc2 X dX8_entry_26 kc_X8_271 ?_
      refine V_lret X dX8_entry_29 ?_ ?_ ?_
      · dsimp only [rmm]; omega
      · dsimp only [rmm]; omega
      exact ⟨by rw [q_entry, if_pos hs, if_neg (fun q => q.1 c_13)], rfl⟩
    refine V_iload_n X dX8_entry_16 rfl ?_
    refine V_aload X dX8_entry_17 rfl rfl ?_
    apply V_get X dX8_entry_19 fk_X8_261
    · exact at_ms (by assumption)
    · exact rfl
    apply V_alen (t := 4) X dX8_entry_22 (fun _ => rfl)
    · exact (ovc_k rfl).trans hf
    refine V_icmp_lt X dX8_entry_23 30 (by decide) (fun c_23 => ?_) (fun c_23 => ?_)
    · have hlt : i < S.1 51 (nn s) := by rw [hm.1]; exact c_23
      have hx := jx_of c_13 hlt
      obtain ⟨g, hfe, -, hie, hge⟩ := hen _ hx.2
      have hix : nn (40 * s + i) = (40 * nn s + nn i) := mul_ix (k := 40) rfl (ms_ix hs).1 hx.1 (by omega)
      refine V_aload X dX8_entry_30 rfl rfl ?_
      apply V_get X dX8_entry_32 fk_X8_261
      · exact at_ms (by assumption)
      · exact rfl
      refine V_iload_n X dX8_entry_35 rfl ?_
      apply V_aaload (t := 4) X dX8_entry_36 (fun _ => rfl)
      · exact (ovc_k rfl).trans hf
      · exact (by rw [hx.1]; exact vp_in_nI2 hx.2 (by omega))
      rw [hfe]
      change V _ _ _ _ (.ref _ :: _) _ _ _
      refine V_astore X dX8_entry_37 (by decide) rfl rfl ?_
      refine V_aload X dX8_entry_39 rfl rfl ?_
      refine V_ifnonnull X dX8_entry_41 48 (by decide) ?_
      refine V_iload_n X dX8_entry_48 rfl ?_
      by_cases t_49_0 : x = 0
      · refine V_tableIn (off := 31) X dX8_entry_49 (by rw [t_49_0]; decide) (by rw [t_49_0]; decide) (by rw [t_49_0]; rfl) 80 (by decide) ?_
        refine V_aload X dX8_entry_80 rfl rfl ?_
        apply V_get X dX8_entry_82 fk_X8_273
        · exact (ovc_k rfl).trans hge
        · exact rfl
        refine V_lret X dX8_entry_85 ?_ ?_ ?_
        · dsimp only [rmm]; omega
        · dsimp only [rmm]; omega
        refine ⟨?_, rfl⟩
        rw [q_entry, if_pos hs, if_pos ⟨c_13, hlt⟩, if_pos t_49_0, hix]
      by_cases t_49_1 : x = 1
      · refine V_tableIn (off := 37) X dX8_entry_49 (by rw [t_49_1]; decide) (by rw [t_49_1]; decide) (by rw [t_49_1]; rfl) 86 (by decide) ?_
        refine V_aload X dX8_entry_86 rfl rfl ?_
        apply V_get X dX8_entry_88 fk_X8_276
        · exact (ovc_k rfl).trans hge
        · exact rfl
        refine V_i2l X dX8_entry_91 ?_
        refine V_lret X dX8_entry_92 ?_ ?_ ?_
        · dsimp only [rmm]; omega
        · dsimp only [rmm]; omega
        refine ⟨?_, rfl⟩
        rw [q_entry, if_pos hs, if_pos ⟨c_13, hlt⟩, if_neg t_49_0, if_pos t_49_1, hix]
        rw [← hie]
      by_cases t_49_2 : x = 2
      · refine V_tableIn (off := 44) X dX8_entry_49 (by rw [t_49_2]; decide) (by rw [t_49_2]; decide) (by rw [t_49_2]; rfl) 93 (by decide) ?_
        refine V_aload X dX8_entry_93 rfl rfl ?_
        apply V_get X dX8_entry_95 fk_X8_279
        · exact (ovc_k rfl).trans hge
        · exact rfl
        refine V_i2l X dX8_entry_98 ?_
        refine V_lret X dX8_entry_99 ?_ ?_ ?_
        · dsimp only [rmm]; omega
        · dsimp only [rmm]; omega
        refine ⟨?_, rfl⟩
        rw [q_entry, if_pos hs, if_pos ⟨c_13, hlt⟩, if_neg t_49_0, if_neg t_49_1, if_pos t_49_2, hix]
      by_cases t_49_3 : x = 3
      · refine V_tableIn (off := 51) X dX8_entry_49 (by rw [t_49_3]; decide) (by rw [t_49_3]; decide) (by rw [t_49_3]; rfl) 100 (by decide) ?_
        refine V_aload X dX8_entry_100 rfl rfl ?_
        apply V_get X dX8_entry_102 fk_X8_280
        · exact (ovc_k rfl).trans hge
        · exact rfl
        refine V_callS1 X dX8_entry_105 mk_X8_167 st_X8_asNumber (k_num l (S.1 58 (40 * nn s + nn i))) (Nat.le_of_ble_eq_true rfl) ⟨Nat.le_of_ble_eq_true rfl, Nat.le_of_ble_eq_true rfl⟩ ?_ ?_
        · exact ⟨by dsimp only [rmm]; omega, by dsimp only [rmm]; omega⟩
        rintro r I1 ⟨rfl, rfl⟩
        refine V_i2l X dX8_entry_108 ?_
        refine V_lret X dX8_entry_109 ?_ ?_ ?_
        · dsimp only [rmm]; omega
        · dsimp only [rmm]; omega
        refine ⟨?_, rfl⟩
        rw [num_b (y := 0) (bt.2 _), q_entry, if_pos hs, if_pos ⟨c_13, hlt⟩, if_neg t_49_0, if_neg t_49_1, if_neg t_49_2, if_pos t_49_3, hix]
      have n_49_0 : (x).toInt ≠ 0 := fun q => t_49_0 ((fa_eq _ _).mpr (q.trans rfl))
      have n_49_1 : (x).toInt ≠ 1 := fun q => t_49_1 ((fa_eq _ _).mpr (q.trans rfl))
      have n_49_2 : (x).toInt ≠ 2 := fun q => t_49_2 ((fa_eq _ _).mpr (q.trans rfl))
      have n_49_3 : (x).toInt ≠ 3 := fun q => t_49_3 ((fa_eq _ _).mpr (q.trans rfl))
      refine V_tableOut X dX8_entry_49 (by omega) 110 (by decide) ?_
      refine V_ldc2 X dX8_entry_110 kc_X8_271 ?_
      refine V_lret X dX8_entry_113 ?_ ?_ ?_
      · dsimp only [rmm]; omega
      · dsimp only [rmm]; omega
      refine ⟨?_, rfl⟩
      rw [q_entry, if_pos hs, if_pos ⟨c_13, hlt⟩, if_neg t_49_0, if_neg t_49_1, if_neg t_49_2, if_neg t_49_3]
    refine V_ldc2 X dX8_entry_26 kc_X8_271 ?_
    refine V_lret X dX8_entry_29 ?_ ?_ ?_
    · dsimp only [rmm]; omega
    · dsimp only [rmm]; omega
    exact ⟨by rw [q_entry, if_pos hs, if_neg (fun q => c_23 (by rw [← hm.1]; exact q.2))], rfl⟩
  refine V_astore X dX8_entry_5 (by decide) rfl rfl ?_
  refine V_aload X dX8_entry_7 rfl rfl ?_
  refine V_ifnullN X dX8_entry_9 26 (by decide) ?_
  refine V_ldc2 X dX8_entry_26 kc_X8_271 ?_
  refine V_lret X dX8_entry_29 ?_ ?_ ?_
  · dsimp only [rmm]; omega
  · dsimp only [rmm]; omega
  exact ⟨by rw [q_entry, if_neg hs], rfl⟩
set_option maxRecDepth 100000 in
set_option maxHeartbeats 4000000 in
theorem k_ses (l : Launch) {S : St} {Q : Nat → List Nat} {J : aH} {s x : Int32} (c : CT S) (R : RJ S Q J) (ma : MA S) (ow : OW S) : AM l yX8_sessionOf cX8_sessionOf 4 (some .int) (rmm 4 0 0 88) [.ref rO, .int s, .int x] (ovc S J) (fun r I' => r = some (.int (q_ses S s x)) ∧ I' = ovc S J) := by
  refine AM_of RX8 (by decide) rfl [some (.ref rO), some (.int s), some (.int x), none] rfl (Nat.le_of_ble_eq_true rfl) (fun Z X hNm => ?_)
  refine V_aload_n X dX8_sessionOf_0 rfl rfl ?_
  refine V_iload_n X dX8_sessionOf_1 rfl ?_
  apply V_callV1 X dX8_sessionOf_2 mk_X8_98 iv_X8_sessionAt (k_sesAt l c R.ml)
  · exact at_root
  · exact rfl
  · exact Nat.le_of_ble_eq_true rfl
  · exact ⟨Nat.le_of_ble_eq_true rfl, Nat.le_of_ble_eq_true rfl⟩
  · exact ⟨by dsimp only [rmm]; omega, by dsimp only [rmm]; omega⟩
  rintro r I1 ⟨rfl, ⟨hs, rfl⟩ | ⟨hs, rfl⟩⟩
  · have hi := (ses_ix hs).2
    have hm := ma _ hi
    have h22 := R.mail hi
    refine V_astore_n X dX8_sessionOf_5 (by decide) rfl rfl ?_
    refine V_aload_n X dX8_sessionOf_6 rfl rfl ?_
    refine V_ifnonnull X dX8_sessionOf_7 13 (by decide) ?_
    refine V_iload_n X dX8_sessionOf_13 rfl ?_
    by_cases t_14_0 : x = 0
    · refine V_tableIn (off := 34) X dX8_sessionOf_14 (by rw [t_14_0]; decide) (by rw [t_14_0]; decide) (by rw [t_14_0]; rfl) 48 (by decide) ?_
      refine V_aload_n X dX8_sessionOf_48 rfl rfl ?_
      apply V_get X dX8_sessionOf_49 fk_X8_102
      · exact at_ses (by assumption)
      · exact rfl
      refine V_iret X dX8_sessionOf_52 ?_ ?_ ?_ ?_
      · exact rfl
      · dsimp only [rmm]; omega
      · dsimp only [rmm]; omega
      refine ⟨?_, rfl⟩
      rw [q_ses, if_pos hs, if_pos t_14_0]
    by_cases t_14_1 : x = 1
    · refine V_tableIn (off := 39) X dX8_sessionOf_14 (by rw [t_14_1]; decide) (by rw [t_14_1]; decide) (by rw [t_14_1]; rfl) 53 (by decide) ?_
      refine V_aload_n X dX8_sessionOf_53 rfl rfl ?_
      apply V_get X dX8_sessionOf_54 fk_X8_283
      · exact at_ses (by assumption)
      · exact rfl
      refine V_aload_n X dX8_sessionOf_57 rfl rfl ?_
      apply V_get X dX8_sessionOf_58 fk_X8_35
      · exact at_root
      · exact rfl
      refine V_isub X dX8_sessionOf_61 ?_
      refine V_iret X dX8_sessionOf_62 ?_ ?_ ?_ ?_
      · exact rfl
      · dsimp only [rmm]; omega
      · dsimp only [rmm]; omega
      refine ⟨?_, rfl⟩
      rw [q_ses, if_pos hs, if_neg t_14_0, if_pos t_14_1]
    by_cases t_14_2 : x = 2
    · refine V_tableIn (off := 49) X dX8_sessionOf_14 (by rw [t_14_2]; decide) (by rw [t_14_2]; decide) (by rw [t_14_2]; rfl) 63 (by decide) ?_
      refine V_aload_n X dX8_sessionOf_63 rfl rfl ?_
      apply V_get X dX8_sessionOf_64 fk_X8_224
      · exact at_ses (by assumption)
      · exact rfl
      refine V_iret X dX8_sessionOf_67 ?_ ?_ ?_ ?_
      · exact rfl
      · dsimp only [rmm]; omega
      · dsimp only [rmm]; omega
      refine ⟨?_, rfl⟩
      rw [q_ses, if_pos hs, if_neg t_14_0, if_neg t_14_1, if_pos t_14_2]
    by_cases t_14_3 : x = 3
    · refine V_tableIn (off := 54) X dX8_sessionOf_14 (by rw [t_14_3]; decide) (by rw [t_14_3]; decide) (by rw [t_14_3]; rfl) 68 (by decide) ?_
      refine V_aload_n X dX8_sessionOf_68 rfl rfl ?_
      refine V_aload_n X dX8_sessionOf_69 rfl rfl ?_
      apply V_callV1 X dX8_sessionOf_70 mk_X8_221 iv_X8_countSubscriptions (k_cntS l hs ow c R.ml)
      · exact at_root
      · exact rfl
      · exact Nat.le_of_ble_eq_true rfl
      · exact ⟨Nat.le_of_ble_eq_true rfl, Nat.le_of_ble_eq_true rfl⟩
      · exact ⟨by dsimp only [rmm]; omega, by dsimp only [rmm]; omega⟩
      rintro r I1 ⟨rfl, rfl⟩
      refine V_iret X dX8_sessionOf_73 ?_ ?_ ?_ ?_
      · exact rfl
      · dsimp only [rmm]; omega
      · dsimp only [rmm]; omega
      refine ⟨?_, rfl⟩
      rw [q_ses, if_pos hs, if_neg t_14_0, if_neg t_14_1, if_neg t_14_2, if_pos t_14_3]
    by_cases t_14_4 : x = 4
    · refine V_tableIn (off := 60) X dX8_sessionOf_14 (by rw [t_14_4]; decide) (by rw [t_14_4]; decide) (by rw [t_14_4]; rfl) 74 (by decide) ?_
      refine V_aload_n X dX8_sessionOf_74 rfl rfl ?_
      apply V_get X dX8_sessionOf_75 fk_X8_246
      · exact at_ses (by assumption)
      · exact rfl
      apply V_callV0 X dX8_sessionOf_78 mk_X8_59 iv_Jx4a65c_size_8abf5 (k_size l (x := S.1 13 (nn s)) (h22.ov rfl rfl) (by rw [mlL_len]; exact hm.1.1.symm))
      · exact ll_o (h22.ov rfl rfl)
      · exact rfl
      · exact Nat.le_of_ble_eq_true rfl
      · exact ⟨Nat.le_of_ble_eq_true rfl, Nat.le_of_ble_eq_true rfl⟩
      · exact ⟨by dsimp only [rmm]; omega, by dsimp only [rmm]; omega⟩
      rintro r I1 ⟨rfl, rfl⟩
      refine V_iret X dX8_sessionOf_81 ?_ ?_ ?_ ?_
      · exact rfl
      · dsimp only [rmm]; omega
      · dsimp only [rmm]; omega
      refine ⟨?_, rfl⟩
      rw [q_ses, if_pos hs, if_neg t_14_0, if_neg t_14_1, if_neg t_14_2, if_neg t_14_3, if_pos t_14_4]
    have n_14_0 : (x).toInt ≠ 0 := fun q => t_14_0 ((fa_eq _ _).mpr (q.trans rfl))
    have n_14_1 : (x).toInt ≠ 1 := fun q => t_14_1 ((fa_eq _ _).mpr (q.trans rfl))
    have n_14_2 : (x).toInt ≠ 2 := fun q => t_14_2 ((fa_eq _ _).mpr (q.trans rfl))
    have n_14_3 : (x).toInt ≠ 3 := fun q => t_14_3 ((fa_eq _ _).mpr (q.trans rfl))
    have n_14_4 : (x).toInt ≠ 4 := fun q => t_14_4 ((fa_eq _ _).mpr (q.trans rfl))
    refine V_tableOut X dX8_sessionOf_14 (by omega) 82 (by decide) ?_
    refine V_bipush (v := (-9)) X dX8_sessionOf_82 (by decide) ?_
    refine V_iret X dX8_sessionOf_84 ?_ ?_ ?_ ?_
    · exact rfl
    · dsimp only [rmm]; omega
    · dsimp only [rmm]; omega
    refine ⟨?_, rfl⟩
    rw [q_ses, if_pos hs, if_neg t_14_0, if_neg t_14_1, if_neg t_14_2, if_neg t_14_3, if_neg t_14_4]
  refine V_astore_n X dX8_sessionOf_5 (by decide) rfl rfl ?_
  refine V_aload_n X dX8_sessionOf_6 rfl rfl ?_
  refine V_ifnonnullN X dX8_sessionOf_7 ?_
  refine V_bipush (v := (-9)) X dX8_sessionOf_10 (by decide) ?_
  refine V_iret X dX8_sessionOf_12 ?_ ?_ ?_ ?_
  · exact rfl
  · dsimp only [rmm]; omega
  · dsimp only [rmm]; omega
  exact ⟨by rw [q_ses, if_neg hs], rfl⟩
theorem st_rng {x : Int32} : (1 ≤ x - 10 ∧ x - 10 ≤ 9) → 11 ≤ x ∧ x ≤ 19 := by
  intro h
  obtain ⟨j, h1, h2, e⟩ := rng_of (a := 1) (b := 9) rfl rfl (by decide) (by decide) h
  have e2 : x = nI (j + 10) := by
    have : x = x - 10 + 10 := (Int32.sub_add_cancel x 10).symm
    rw [this, e]
    exact nI_add j 10
  rw [e2, fa_le, fa_le, nI_toInt (by omega)]
  exact ⟨by show (11 : Int) ≤ _; omega, by show _ ≤ (19 : Int); omega⟩
theorem st_rng2 {x : Int32} : (11 ≤ x ∧ x ≤ 19) → 1 ≤ x - 10 ∧ x - 10 ≤ 9 := by
  intro h
  obtain ⟨j, h1, h2, e⟩ := rng_of (a := 11) (b := 19) rfl rfl (by decide) (by decide) h
  rw [e, show (10 : Int32) = nI 10 from rfl, pk_sub (by omega), fa_le, fa_le, nI_toInt (by omega)]
  exact ⟨by show (1 : Int) ≤ _; omega, by show _ ≤ (9 : Int); omega⟩
theorem st_no {x : Int32} {v : Int32} (h : 11 ≤ x ∧ x ≤ 19) (hv : ¬ (11 ≤ v ∧ v ≤ 19)) : ¬ x = v := fun q => hv (q ▸ h)
set_option maxRecDepth 100000 in
set_option maxHeartbeats 4000000 in
theorem k_stat (l : Launch) {S : St} {Q : Nat → List Nat} {J : aH} {x : Int32} (c : CT S) (R : RJ S Q J) : AM l yX8_status cX8_status 3 (some .int) (rmm 4 0 0 88) [.ref rO, .int x] (ovc S J) (fun r I' => r = some (.int (q_stat S x)) ∧ I' = ovc S J) := by
  have m := R.ml
  refine AM_of RX8 (by decide) rfl [some (.ref rO), some (.int x), none] rfl (Nat.le_of_ble_eq_true rfl) (fun Z X hNm => ?_)
  refine V_iload_n X dX8_status_0 rfl ?_
  refine V_bipush (v := 10) X dX8_status_1 (by decide) ?_
  refine V_isub X dX8_status_3 ?_
  refine V_istore_n X dX8_status_4 (by decide) rfl ?_
  refine V_iload_n X dX8_status_5 rfl ?_
  refine V_iconst (v := 1) X dX8_status_6 (by decide) ?_
  refine V_bipush (v := 9) X dX8_status_7 (by decide) ?_
  refine V_callS3 X dX8_status_9 mk_X8_51 st_X8_isWithin (k_within l (x - 10) 1 9) (Nat.le_of_ble_eq_true rfl) ⟨Nat.le_of_ble_eq_true rfl, Nat.le_of_ble_eq_true rfl⟩ ?_ ?_
  · exact ⟨by dsimp only [rmm]; omega, by dsimp only [rmm]; omega⟩
  rintro r I1 ⟨rfl, rfl⟩
  refine V_if_eq X dX8_status_12 22 (by decide) (fun c_12 => ?_) (fun c_12 => ?_)
  · have h_12 := bz_f c_12
    refine V_iload_n X dX8_status_22 rfl ?_
    by_cases t_23_0 : x = 0
    · refine V_tableIn (off := 41) X dX8_status_23 (by rw [t_23_0]; decide) (by rw [t_23_0]; decide) (by rw [t_23_0]; rfl) 64 (by decide) ?_
      refine V_aload_n X dX8_status_64 rfl rfl ?_
      apply V_get X dX8_status_65 fk_X8_35
      · exact at_root
      · exact rfl
      refine V_iret X dX8_status_68 ?_ ?_ ?_ ?_
      · exact rfl
      · dsimp only [rmm]; omega
      · dsimp only [rmm]; omega
      refine ⟨?_, rfl⟩
      rw [q_stat, if_pos t_23_0]
    by_cases t_23_1 : x = 1
    · refine V_tableIn (off := 46) X dX8_status_23 (by rw [t_23_1]; decide) (by rw [t_23_1]; decide) (by rw [t_23_1]; rfl) 69 (by decide) ?_
      refine V_aload_n X dX8_status_69 rfl rfl ?_
      apply V_get X dX8_status_70 fk_X8_10
      · exact at_root
      · exact rfl
      apply V_callV0 X dX8_status_73 mk_X8_59 iv_Jx4a65c_size_8abf5 (k_szr l m.1 c.1 (by decide) rfl rfl)
      · exact ll_o (m.1.ov rfl rfl)
      · exact rfl
      · exact Nat.le_of_ble_eq_true rfl
      · exact ⟨Nat.le_of_ble_eq_true rfl, Nat.le_of_ble_eq_true rfl⟩
      · exact ⟨by dsimp only [rmm]; omega, by dsimp only [rmm]; omega⟩
      rintro r I1 ⟨rfl, rfl⟩
      refine V_iret X dX8_status_76 ?_ ?_ ?_ ?_
      · exact rfl
      · dsimp only [rmm]; omega
      · dsimp only [rmm]; omega
      refine ⟨?_, rfl⟩
      rw [q_stat, if_neg t_23_0, if_pos t_23_1]
    by_cases t_23_2 : x = 2
    · refine V_tableIn (off := 54) X dX8_status_23 (by rw [t_23_2]; decide) (by rw [t_23_2]; decide) (by rw [t_23_2]; rfl) 77 (by decide) ?_
      refine V_aload_n X dX8_status_77 rfl rfl ?_
      apply V_get X dX8_status_78 fk_X8_16
      · exact at_root
      · exact rfl
      apply V_callV0 X dX8_status_81 mk_X8_59 iv_Jx4a65c_size_8abf5 (k_szr l m.2.1 c.2.1 (by decide) rfl rfl)
      · exact ll_o (m.2.1.ov rfl rfl)
      · exact rfl
      · exact Nat.le_of_ble_eq_true rfl
      · exact ⟨Nat.le_of_ble_eq_true rfl, Nat.le_of_ble_eq_true rfl⟩
      · exact ⟨by dsimp only [rmm]; omega, by dsimp only [rmm]; omega⟩
      rintro r I1 ⟨rfl, rfl⟩
      refine V_iret X dX8_status_84 ?_ ?_ ?_ ?_
      · exact rfl
      · dsimp only [rmm]; omega
      · dsimp only [rmm]; omega
      refine ⟨?_, rfl⟩
      rw [q_stat, if_neg t_23_0, if_neg t_23_1, if_pos t_23_2]
    by_cases t_23_3 : x = 3
    · refine V_tableIn (off := 62) X dX8_status_23 (by rw [t_23_3]; decide) (by rw [t_23_3]; decide) (by rw [t_23_3]; rfl) 85 (by decide) ?_
      refine V_aload_n X dX8_status_85 rfl rfl ?_
      apply V_callV0 X dX8_status_86 mk_X8_313 iv_X8_countOpenSessions (k_cntO l c m)
      · exact at_root
      · exact rfl
      · exact Nat.le_of_ble_eq_true rfl
      · exact ⟨Nat.le_of_ble_eq_true rfl, Nat.le_of_ble_eq_true rfl⟩
      · exact ⟨by dsimp only [rmm]; omega, by dsimp only [rmm]; omega⟩
      rintro r I1 ⟨rfl, rfl⟩
      refine V_iret X dX8_status_89 ?_ ?_ ?_ ?_
      · exact rfl
      · dsimp only [rmm]; omega
      · dsimp only [rmm]; omega
      refine ⟨?_, rfl⟩
      rw [q_stat, if_neg t_23_0, if_neg t_23_1, if_neg t_23_2, if_pos t_23_3]
    by_cases t_23_4 : x = 4
    · refine V_tableIn (off := 67) X dX8_status_23 (by rw [t_23_4]; decide) (by rw [t_23_4]; decide) (by rw [t_23_4]; rfl) 90 (by decide) ?_
      refine V_aload_n X dX8_status_90 rfl rfl ?_
      refine V_null X dX8_status_91 ?_
      apply V_callV1 X dX8_status_92 mk_X8_221 iv_X8_countSubscriptions (k_cntA l c m)
      · exact at_root
      · exact rfl
      · exact Nat.le_of_ble_eq_true rfl
      · exact ⟨Nat.le_of_ble_eq_true rfl, Nat.le_of_ble_eq_true rfl⟩
      · exact ⟨by dsimp only [rmm]; omega, by dsimp only [rmm]; omega⟩
      rintro r I1 ⟨rfl, rfl⟩
      refine V_iret X dX8_status_95 ?_ ?_ ?_ ?_
      · exact rfl
      · dsimp only [rmm]; omega
      · dsimp only [rmm]; omega
      refine ⟨?_, rfl⟩
      rw [q_stat, if_neg t_23_0, if_neg t_23_1, if_neg t_23_2, if_neg t_23_3, if_pos t_23_4]
    by_cases t_23_5 : x = 5
    · refine V_tableIn (off := 73) X dX8_status_23 (by rw [t_23_5]; decide) (by rw [t_23_5]; decide) (by rw [t_23_5]; rfl) 96 (by decide) ?_
      refine V_aload_n X dX8_status_96 rfl rfl ?_
      apply V_callV0 X dX8_status_97 mk_X8_316 iv_X8_countItems (k_cntI l c m)
      · exact at_root
      · exact rfl
      · exact Nat.le_of_ble_eq_true rfl
      · exact ⟨Nat.le_of_ble_eq_true rfl, Nat.le_of_ble_eq_true rfl⟩
      · exact ⟨by dsimp only [rmm]; omega, by dsimp only [rmm]; omega⟩
      rintro r I1 ⟨rfl, rfl⟩
      refine V_iret X dX8_status_100 ?_ ?_ ?_ ?_
      · exact rfl
      · dsimp only [rmm]; omega
      · dsimp only [rmm]; omega
      refine ⟨?_, rfl⟩
      rw [q_stat, if_neg t_23_0, if_neg t_23_1, if_neg t_23_2, if_neg t_23_3, if_neg t_23_4, if_pos t_23_5]
    by_cases t_23_6 : x = 6
    · refine V_tableIn (off := 78) X dX8_status_23 (by rw [t_23_6]; decide) (by rw [t_23_6]; decide) (by rw [t_23_6]; rfl) 101 (by decide) ?_
      refine V_aload_n X dX8_status_101 rfl rfl ?_
      apply V_get X dX8_status_102 fk_X8_28
      · exact at_root
      · exact rfl
      apply V_callV0 X dX8_status_105 mk_X8_59 iv_Jx4a65c_size_8abf5 (k_szr l m.2.2.2.2.2 c.2.2.2.2.2 (by decide) rfl rfl)
      · exact ll_o (m.2.2.2.2.2.ov rfl rfl)
      · exact rfl
      · exact Nat.le_of_ble_eq_true rfl
      · exact ⟨Nat.le_of_ble_eq_true rfl, Nat.le_of_ble_eq_true rfl⟩
      · exact ⟨by dsimp only [rmm]; omega, by dsimp only [rmm]; omega⟩
      rintro r I1 ⟨rfl, rfl⟩
      refine V_iret X dX8_status_108 ?_ ?_ ?_ ?_
      · exact rfl
      · dsimp only [rmm]; omega
      · dsimp only [rmm]; omega
      refine ⟨?_, rfl⟩
      rw [q_stat, if_neg t_23_0, if_neg t_23_1, if_neg t_23_2, if_neg t_23_3, if_neg t_23_4, if_neg t_23_5, if_pos t_23_6]
    have n_23_0 : (x).toInt ≠ 0 := fun q => t_23_0 ((fa_eq _ _).mpr (q.trans rfl))
    have n_23_1 : (x).toInt ≠ 1 := fun q => t_23_1 ((fa_eq _ _).mpr (q.trans rfl))
    have n_23_2 : (x).toInt ≠ 2 := fun q => t_23_2 ((fa_eq _ _).mpr (q.trans rfl))
    have n_23_3 : (x).toInt ≠ 3 := fun q => t_23_3 ((fa_eq _ _).mpr (q.trans rfl))
    have n_23_4 : (x).toInt ≠ 4 := fun q => t_23_4 ((fa_eq _ _).mpr (q.trans rfl))
    have n_23_5 : (x).toInt ≠ 5 := fun q => t_23_5 ((fa_eq _ _).mpr (q.trans rfl))
    have n_23_6 : (x).toInt ≠ 6 := fun q => t_23_6 ((fa_eq _ _).mpr (q.trans rfl))
    refine V_tableOut X dX8_status_23 (by omega) 109 (by decide) ?_
    refine V_bipush (v := (-9)) X dX8_status_109 (by decide) ?_
    refine V_iret X dX8_status_111 ?_ ?_ ?_ ?_
    · exact rfl
    · dsimp only [rmm]; omega
    · dsimp only [rmm]; omega
    refine ⟨?_, rfl⟩
    rw [q_stat, if_neg t_23_0, if_neg t_23_1, if_neg t_23_2, if_neg t_23_3, if_neg t_23_4, if_neg t_23_5, if_neg t_23_6, if_neg (fun q => h_12 (st_rng2 q))]
  have h_12 := bz_t c_12
  refine V_aload_n X dX8_status_15 rfl rfl ?_
  apply V_get X dX8_status_16 fk_X8_31
  · exact at_root
  · exact rfl
  refine V_iload_n X dX8_status_19 rfl ?_
  apply V_iaload X dX8_status_20
  · exact at_fus
  · exact (by obtain ⟨k, hk1, hk2, ek⟩ := rng_of (a := 1) (b := 9) rfl rfl (by decide) (by decide) h_12; rw [ek]; exact vp_in_nI2 (by omega) (by omega))
  refine V_iret X dX8_status_21 ?_ ?_ ?_ ?_
  · exact rfl
  · dsimp only [rmm]; omega
  · dsimp only [rmm]; omega
  refine ⟨?_, rfl⟩
  have hx := st_rng h_12
  rw [q_stat, if_neg (st_no hx (v := 0) (by decide)), if_neg (st_no hx (v := 1) (by decide)), if_neg (st_no hx (v := 2) (by decide)), if_neg (st_no hx (v := 3) (by decide)), if_neg (st_no hx (v := 4) (by decide)), if_neg (st_no hx (v := 5) (by decide)), if_neg (st_no hx (v := 6) (by decide)), if_pos hx]
set_option maxRecDepth 100000 in
set_option maxHeartbeats 4000000 in
theorem k_bit (l : Launch) {S : St} {Q : Nat → List Nat} {J : aH} {i : Nat} (R : RJ S Q J) (hi : i < nn (S.1 32 0)) (h8 : sm (S.1 44 i) 8) (bt : BT S) : AM l yX4_firstHasBit cX4_firstHasBit 1 (some .boolean) (rmm 3 0 0 64) [.ref (kd 7 i 0)] (ovc S J) (fun r I' => r = some (.int (if S.1 44 i ≤ 0 then 0 else S.1 47 (8 * i))) ∧ I' = ovc S J) := by
  have hq := R.que hi
  have hen := R.2.1 i hi
  have h82 := h8.2
  refine AM_of RX4 (by decide) rfl [some (.ref (kd 7 i 0))] rfl (Nat.le_of_ble_eq_true rfl) (fun Z X hNm => ?_)
  refine V_aload_n X dX4_firstHasBit_0 rfl rfl ?_
  apply V_get X dX4_firstHasBit_1 fk_X4_10
  · exact at_qu (by assumption)
  · exact rfl
  apply V_callV0 X dX4_firstHasBit_4 mk_X4_47 iv_Jx4a65c_isEmpty_aae02 (c_isEmpty l (hq.ov (S := S) rfl rfl) (by rw [quL_len, hen.2.1]; omega))
  · exact ll_o (hq.ov rfl rfl)
  · exact rfl
  · exact Nat.le_of_ble_eq_true rfl
  · exact ⟨Nat.le_of_ble_eq_true rfl, Nat.le_of_ble_eq_true rfl⟩
  · exact ⟨by dsimp only [rmm]; omega, by dsimp only [rmm]; omega⟩
  rintro r I1 ⟨rfl, rfl⟩
  refine V_if_ne X dX4_firstHasBit_7 31 (by decide) (fun c_7 => ?_) (fun c_7 => ?_)
  · have h_7 := bz_t c_7
    refine V_iconst (v := 0) X dX4_firstHasBit_31 (by decide) ?_
    refine V_iret X dX4_firstHasBit_32 ?_ ?_ ?_ ?_
    · exact rfl
    · dsimp only [rmm]; omega
    · dsimp only [rmm]; omega
    refine ⟨?_, rfl⟩
    rw [if_pos]
    rw [h8.1]
    exact (nI_pos0 (by omega)).mpr (by rw [quL_len, hen.2.1] at h_7; omega)
  have h_7 := bz_f c_7
  have hp : 0 < nn (S.1 44 i) := by rw [← hen.2.1, ← quL_len]; omega
  have he := hen.2.2 0 hp
  rw [Nat.add_zero] at he
  refine V_aload_n X dX4_firstHasBit_10 rfl rfl ?_
  apply V_get X dX4_firstHasBit_11 fk_X4_10
  · exact at_qu (by assumption)
  · exact rfl
  refine V_iconst (v := 0) X dX4_firstHasBit_14 (by decide) ?_
  apply V_callV1 X dX4_firstHasBit_15 mk_X4_39 iv_Jx4a65c_get_915e3 (k_get l (j := 0) (hq.ov (S := S) rfl rfl) (by rw [quL_len, hen.2.1]; exact hp) rfl (by rw [quL_len, hen.2.1]; omega) (map_at (by rw [hen.2.1]; exact hp)))
  · exact ll_o (hq.ov rfl rfl)
  · exact rfl
  · exact Nat.le_of_ble_eq_true rfl
  · exact ⟨Nat.le_of_ble_eq_true rfl, Nat.le_of_ble_eq_true rfl⟩
  · exact ⟨by dsimp only [rmm]; omega, by dsimp only [rmm]; omega⟩
  rintro r I1 ⟨rfl, rfl⟩
  apply V_cast (ci := 1) X dX4_firstHasBit_18 cl_X4_42
  · exact rfl
  · exact (ovc_k rfl).trans he
  apply V_get X dX4_firstHasBit_21 fk_X4_44
  · exact (ovc_k rfl).trans he
  · exact rfl
  refine V_if_eq X dX4_firstHasBit_24 31 (by decide) (fun c_24 => ?_) (fun c_24 => ?_)
  · refine V_iconst (v := 0) X dX4_firstHasBit_31 (by decide) ?_
    refine V_iret X dX4_firstHasBit_32 ?_ ?_ ?_ ?_
    · exact rfl
    · dsimp only [rmm]; omega
    · dsimp only [rmm]; omega
    refine ⟨?_, rfl⟩
    rw [if_neg (fun q => (nI_pos0 (by omega)).mp (h8.1 ▸ q) hp), c_24]
  refine V_iconst (v := 1) X dX4_firstHasBit_27 (by decide) ?_
  refine V_goto X dX4_firstHasBit_28 32 (by decide) ?_
  refine V_iret X dX4_firstHasBit_32 ?_ ?_ ?_ ?_
  · exact rfl
  · dsimp only [rmm]; omega
  · dsimp only [rmm]; omega
  refine ⟨?_, rfl⟩
  rw [if_neg (fun q => (nI_pos0 (by omega)).mp (h8.1 ▸ q) hp), (bt.1 _).resolve_left c_24]
theorem mul8 {S : St} {s : Int32} (h : isIt S s) (hb : nn s < 60) : nn (8 * s) = 8 * nn s := by
  have e : (8 : Int32) * s = nI (8 * nn s) := by
    have := (it_ix h).1
    generalize nn s = a at *
    rw [this, show (8 : Int32) = nI 8 from rfl, pk_mul]
  rw [e]
  exact nnI (by omega)
set_option maxRecDepth 100000 in
set_option maxHeartbeats 4000000 in
theorem k_itemOf (l : Launch) {S : St} {Q : Nat → List Nat} {J : aH} {s x : Int32} (c : CT S) (R : RJ S Q J) (ow : OW S) (hQ : ∀ i, i < nn (S.1 32 0) → sm (S.1 44 i) 8) (bt : BT S) : AM l yX8_itemOf cX8_itemOf 4 (some .int) (rmm 4 0 0 86) [.ref rO, .int s, .int x] (ovc S J) (fun r I' => r = some (.int (q_itemOf S s x)) ∧ I' = ovc S J) := by
  refine AM_of RX8 (by decide) rfl [some (.ref rO), some (.int s), some (.int x), none] rfl (Nat.le_of_ble_eq_true rfl) (fun Z X hNm => ?_)
  refine V_aload_n X dX8_itemOf_0 rfl rfl ?_
  refine V_iload_n X dX8_itemOf_1 rfl ?_
  apply V_callV1 X dX8_itemOf_2 mk_X8_301 iv_X8_itemAt (k_itAt l c R.ml)
  · exact at_root
  · exact rfl
  · exact Nat.le_of_ble_eq_true rfl
  · exact ⟨Nat.le_of_ble_eq_true rfl, Nat.le_of_ble_eq_true rfl⟩
  · exact ⟨by dsimp only [rmm]; omega, by dsimp only [rmm]; omega⟩
  rintro r I1 ⟨rfl, ⟨hs, rfl⟩ | ⟨hs, rfl⟩⟩
  · have hi := (it_ix hs.1).2
    have hw := ow.2 _ hi
    have hq := R.que hi
    have hen := R.2.1 _ hi
    have h8 := hQ _ hi
    have h60 := (ct_nn c.2.2.2.2.1 (by decide)).1
    refine V_astore_n X dX8_itemOf_5 (by decide) rfl rfl ?_
    refine V_aload_n X dX8_itemOf_6 rfl rfl ?_
    refine V_ifnonnull X dX8_itemOf_7 13 (by decide) ?_
    refine V_iload_n X dX8_itemOf_13 rfl ?_
    by_cases t_14_0 : x = 0
    · refine V_tableIn (off := 34) X dX8_itemOf_14 (by rw [t_14_0]; decide) (by rw [t_14_0]; decide) (by rw [t_14_0]; rfl) 48 (by decide) ?_
      refine V_aload_n X dX8_itemOf_48 rfl rfl ?_
      apply V_get X dX8_itemOf_49 fk_X8_207
      · exact at_it (by assumption)
      · exact rfl
      apply V_get X dX8_itemOf_52 fk_X8_150
      · exact at_sub (hw.2.1)
      · exact rfl
      refine V_iret X dX8_itemOf_55 ?_ ?_ ?_ ?_
      · exact rfl
      · dsimp only [rmm]; omega
      · dsimp only [rmm]; omega
      refine ⟨?_, rfl⟩
      rw [q_itemOf, if_pos hs.1, if_neg hs.2, if_pos t_14_0]
      rw [← hw.1.1]
    by_cases t_14_1 : x = 1
    · refine V_tableIn (off := 42) X dX8_itemOf_14 (by rw [t_14_1]; decide) (by rw [t_14_1]; decide) (by rw [t_14_1]; rfl) 56 (by decide) ?_
      refine V_aload_n X dX8_itemOf_56 rfl rfl ?_
      apply V_get X dX8_itemOf_57 fk_X8_305
      · exact at_it (by assumption)
      · exact rfl
      apply V_get X dX8_itemOf_60 fk_X8_309
      · exact at_node (hw.2.2.2)
      · exact rfl
      refine V_iret X dX8_itemOf_63 ?_ ?_ ?_ ?_
      · exact rfl
      · dsimp only [rmm]; omega
      · dsimp only [rmm]; omega
      refine ⟨?_, rfl⟩
      rw [q_itemOf, if_pos hs.1, if_neg hs.2, if_neg t_14_0, if_pos t_14_1]
      rw [← hw.2.2.1.1]
    by_cases t_14_2 : x = 2
    · refine V_tableIn (off := 50) X dX8_itemOf_14 (by rw [t_14_2]; decide) (by rw [t_14_2]; decide) (by rw [t_14_2]; rfl) 64 (by decide) ?_
      refine V_aload_n X dX8_itemOf_64 rfl rfl ?_
      apply V_get X dX8_itemOf_65 fk_X8_204
      · exact at_it (by assumption)
      · exact rfl
      refine V_iret X dX8_itemOf_68 ?_ ?_ ?_ ?_
      · exact rfl
      · dsimp only [rmm]; omega
      · dsimp only [rmm]; omega
      refine ⟨?_, rfl⟩
      rw [q_itemOf, if_pos hs.1, if_neg hs.2, if_neg t_14_0, if_neg t_14_1, if_pos t_14_2]
    by_cases t_14_3 : x = 3
    · refine V_tableIn (off := 55) X dX8_itemOf_14 (by rw [t_14_3]; decide) (by rw [t_14_3]; decide) (by rw [t_14_3]; rfl) 69 (by decide) ?_
      refine V_aload_n X dX8_itemOf_69 rfl rfl ?_
      apply V_get X dX8_itemOf_70 fk_X8_210
      · exact at_it (by assumption)
      · exact rfl
      apply V_get X dX8_itemOf_73 fk_X8_214
      · exact at_qu (by assumption)
      · exact rfl
      apply V_callV0 X dX8_itemOf_76 mk_X8_59 iv_Jx4a65c_size_8abf5 (k_size l (x := S.1 44 (nn s)) (hq.ov rfl rfl) (by rw [quL_len, hen.2.1]; exact h8.1.symm))
      · exact ll_o (hq.ov rfl rfl)
      · exact rfl
      · exact Nat.le_of_ble_eq_true rfl
      · exact ⟨Nat.le_of_ble_eq_true rfl, Nat.le_of_ble_eq_true rfl⟩
      · exact ⟨by dsimp only [rmm]; omega, by dsimp only [rmm]; omega⟩
      rintro r I1 ⟨rfl, rfl⟩
      refine V_iret X dX8_itemOf_79 ?_ ?_ ?_ ?_
      · exact rfl
      · dsimp only [rmm]; omega
      · dsimp only [rmm]; omega
      refine ⟨?_, rfl⟩
      rw [q_itemOf, if_pos hs.1, if_neg hs.2, if_neg t_14_0, if_neg t_14_1, if_neg t_14_2, if_pos t_14_3]
    by_cases t_14_4 : x = 4
    · refine V_tableIn (off := 66) X dX8_itemOf_14 (by rw [t_14_4]; decide) (by rw [t_14_4]; decide) (by rw [t_14_4]; rfl) 80 (by decide) ?_
      refine V_aload_n X dX8_itemOf_80 rfl rfl ?_
      apply V_get X dX8_itemOf_81 fk_X8_210
      · exact at_it (by assumption)
      · exact rfl
      apply V_callV0 X dX8_itemOf_84 mk_X8_310 iv_X4_firstHasBit (k_bit l R hi h8 bt)
      · exact at_qu (by assumption)
      · exact rfl
      · exact Nat.le_of_ble_eq_true rfl
      · exact ⟨Nat.le_of_ble_eq_true rfl, Nat.le_of_ble_eq_true rfl⟩
      · exact ⟨by dsimp only [rmm]; omega, by dsimp only [rmm]; omega⟩
      rintro r I1 ⟨rfl, rfl⟩
      refine V_callS1 X dX8_itemOf_87 mk_X8_167 st_X8_asNumber (k_num l _) (Nat.le_of_ble_eq_true rfl) ⟨Nat.le_of_ble_eq_true rfl, Nat.le_of_ble_eq_true rfl⟩ ?_ ?_
      · exact ⟨by dsimp only [rmm]; omega, by dsimp only [rmm]; omega⟩
      rintro r I1 ⟨rfl, rfl⟩
      refine V_iret X dX8_itemOf_90 ?_ ?_ ?_ ?_
      · exact rfl
      · dsimp only [rmm]; omega
      · dsimp only [rmm]; omega
      refine ⟨?_, rfl⟩
      rw [q_itemOf, if_pos hs.1, if_neg hs.2, if_neg t_14_0, if_neg t_14_1, if_neg t_14_2, if_neg t_14_3, if_pos t_14_4]
      rw [mul8 hs.1 (by omega)]
      refine congrArg some (congrArg Value.int (num_b (y := 0) ?_))
      split
      · exact Or.inl rfl
      · exact bt.1 _
    have n_14_0 : (x).toInt ≠ 0 := fun q => t_14_0 ((fa_eq _ _).mpr (q.trans rfl))
    have n_14_1 : (x).toInt ≠ 1 := fun q => t_14_1 ((fa_eq _ _).mpr (q.trans rfl))
    have n_14_2 : (x).toInt ≠ 2 := fun q => t_14_2 ((fa_eq _ _).mpr (q.trans rfl))
    have n_14_3 : (x).toInt ≠ 3 := fun q => t_14_3 ((fa_eq _ _).mpr (q.trans rfl))
    have n_14_4 : (x).toInt ≠ 4 := fun q => t_14_4 ((fa_eq _ _).mpr (q.trans rfl))
    refine V_tableOut X dX8_itemOf_14 (by omega) 91 (by decide) ?_
    refine V_bipush (v := (-9)) X dX8_itemOf_91 (by decide) ?_
    refine V_iret X dX8_itemOf_93 ?_ ?_ ?_ ?_
    · exact rfl
    · dsimp only [rmm]; omega
    · dsimp only [rmm]; omega
    refine ⟨?_, rfl⟩
    rw [q_itemOf, if_pos hs.1, if_neg hs.2, if_neg t_14_0, if_neg t_14_1, if_neg t_14_2, if_neg t_14_3, if_neg t_14_4]
  refine V_astore_n X dX8_itemOf_5 (by decide) rfl rfl ?_
  refine V_aload_n X dX8_itemOf_6 rfl rfl ?_
  refine V_ifnonnullN X dX8_itemOf_7 ?_
  refine V_bipush (v := (-9)) X dX8_itemOf_10 (by decide) ?_
  refine V_iret X dX8_itemOf_12 ?_ ?_ ?_ ?_
  · exact rfl
  · dsimp only [rmm]; omega
  · dsimp only [rmm]; omega
  refine ⟨?_, rfl⟩
  by_cases q : isIt S s
  · rw [q_itemOf, if_pos q, if_pos (Decidable.byContradiction fun z => hs ⟨q, z⟩)]
  · rw [q_itemOf, if_neg q]
theorem kp_len {S : St} {s : Int32} : ∀ n, kpN S s n = (fl (kpB S s) n).length
  | 0 => rfl
  | n + 1 => by
    rw [kpN, fl_s, List.length_append, kp_len n]
    by_cases q : kpP S s n
    · rw [if_pos q, if_pos (kpB_iff.mpr q)]
      rfl
    · rw [if_neg q, if_neg (fun z => q (kpB_iff.mp z))]
      rfl
theorem RJ.ql {S : St} {Q : Nat → List Nat} {J : aH} (R : RJ S Q J) (h : ∀ i, i < nn (S.1 32 0) → sm (S.1 44 i) 8) : QL S Q J := fun i hi => ⟨R.que hi, (R.2.1 i hi).2.1, h i hi⟩
set_option maxRecDepth 100000 in
set_option maxHeartbeats 4000000 in
theorem k_sub (l : Launch) {S : St} {Q : Nat → List Nat} {J : aH} {s x : Int32} (c : CT S) (R : RJ S Q J) (ow : OW S) (hQ : ∀ i, i < nn (S.1 32 0) → sm (S.1 44 i) 8) : AM l yX8_subscription cX8_subscription 4 (some .int) (rmm 5 0 0 107) [.ref rO, .int s, .int x] (ovc S J) (fun r I' => r = some (.int (q_sub S s x)) ∧ I' = ovc S J) := by
  refine AM_of RX8 (by decide) rfl [some (.ref rO), some (.int s), some (.int x), none] rfl (Nat.le_of_ble_eq_true rfl) (fun Z X hNm => ?_)
  refine V_aload_n X dX8_subscription_0 rfl rfl ?_
  refine V_iload_n X dX8_subscription_1 rfl ?_
  apply V_callV1 X dX8_subscription_2 mk_X8_171 iv_X8_subscriptionAt (k_subAt l c R.ml)
  · exact at_root
  · exact rfl
  · exact Nat.le_of_ble_eq_true rfl
  · exact ⟨Nat.le_of_ble_eq_true rfl, Nat.le_of_ble_eq_true rfl⟩
  · exact ⟨by dsimp only [rmm]; omega, by dsimp only [rmm]; omega⟩
  rintro r I1 ⟨rfl, ⟨hs, rfl⟩ | ⟨hs, rfl⟩⟩
  · have hi := (sub_ix hs.1).2
    have hw := ow.1 _ hi
    have h24 := R.its hi
    have h26 := R.kps hi
    have h60 := (ct_nn c.2.2.2.2.1 (by decide)).1
    have h20 := (ct_nn c.2.2.2.1 (by decide)).1
    have es := (sub_ix hs.1).1
    refine V_astore_n X dX8_subscription_5 (by decide) rfl rfl ?_
    refine V_aload_n X dX8_subscription_6 rfl rfl ?_
    refine V_ifnonnull X dX8_subscription_7 13 (by decide) ?_
    refine V_iload_n X dX8_subscription_13 rfl ?_
    by_cases t_14_0 : x = 0
    · refine V_tableIn (off := 50) X dX8_subscription_14 (by rw [t_14_0]; decide) (by rw [t_14_0]; decide) (by rw [t_14_0]; rfl) 64 (by decide) ?_
      refine V_aload_n X dX8_subscription_64 rfl rfl ?_
      apply V_get X dX8_subscription_65 fk_X8_175
      · exact at_sub (by assumption)
      · exact rfl
      apply V_get X dX8_subscription_68 fk_X8_285
      · exact at_ses (hw.2)
      · exact rfl
      refine V_iret X dX8_subscription_71 ?_ ?_ ?_ ?_
      · exact rfl
      · dsimp only [rmm]; omega
      · dsimp only [rmm]; omega
      refine ⟨?_, rfl⟩
      rw [q_sub, if_pos hs.1, if_neg hs.2, if_pos t_14_0]
      rw [← hw.1.1]
    by_cases t_14_1 : x = 1
    · refine V_tableIn (off := 58) X dX8_subscription_14 (by rw [t_14_1]; decide) (by rw [t_14_1]; decide) (by rw [t_14_1]; rfl) 72 (by decide) ?_
      refine V_aload_n X dX8_subscription_72 rfl rfl ?_
      apply V_get X dX8_subscription_73 fk_X8_157
      · exact at_sub (by assumption)
      · exact rfl
      refine V_callS1 X dX8_subscription_76 mk_X8_167 st_X8_asNumber (k_num l (S.1 23 (nn s))) (Nat.le_of_ble_eq_true rfl) ⟨Nat.le_of_ble_eq_true rfl, Nat.le_of_ble_eq_true rfl⟩ ?_ ?_
      · exact ⟨by dsimp only [rmm]; omega, by dsimp only [rmm]; omega⟩
      rintro r I1 ⟨rfl, rfl⟩
      refine V_iret X dX8_subscription_79 ?_ ?_ ?_ ?_
      · exact rfl
      · dsimp only [rmm]; omega
      · dsimp only [rmm]; omega
      refine ⟨?_, rfl⟩
      rw [q_sub, if_pos hs.1, if_neg hs.2, if_neg t_14_0, if_pos t_14_1]
    by_cases t_14_2 : x = 2
    · refine V_tableIn (off := 66) X dX8_subscription_14 (by rw [t_14_2]; decide) (by rw [t_14_2]; decide) (by rw [t_14_2]; rfl) 80 (by decide) ?_
      refine V_aload_n X dX8_subscription_80 rfl rfl ?_
      apply V_get X dX8_subscription_81 fk_X8_286
      · exact at_sub (by assumption)
      · exact rfl
      refine V_iret X dX8_subscription_84 ?_ ?_ ?_ ?_
      · exact rfl
      · dsimp only [rmm]; omega
      · dsimp only [rmm]; omega
      refine ⟨?_, rfl⟩
      rw [q_sub, if_pos hs.1, if_neg hs.2, if_neg t_14_0, if_neg t_14_1, if_pos t_14_2]
    by_cases t_14_3 : x = 3
    · refine V_tableIn (off := 71) X dX8_subscription_14 (by rw [t_14_3]; decide) (by rw [t_14_3]; decide) (by rw [t_14_3]; rfl) 85 (by decide) ?_
      refine V_aload_n X dX8_subscription_85 rfl rfl ?_
      apply V_get X dX8_subscription_86 fk_X8_289
      · exact at_sub (by assumption)
      · exact rfl
      refine V_iret X dX8_subscription_89 ?_ ?_ ?_ ?_
      · exact rfl
      · dsimp only [rmm]; omega
      · dsimp only [rmm]; omega
      refine ⟨?_, rfl⟩
      rw [q_sub, if_pos hs.1, if_neg hs.2, if_neg t_14_0, if_neg t_14_1, if_neg t_14_2, if_pos t_14_3]
    by_cases t_14_4 : x = 4
    · refine V_tableIn (off := 76) X dX8_subscription_14 (by rw [t_14_4]; decide) (by rw [t_14_4]; decide) (by rw [t_14_4]; rfl) 90 (by decide) ?_
      refine V_aload_n X dX8_subscription_90 rfl rfl ?_
      apply V_get X dX8_subscription_91 fk_X8_164
      · exact at_sub (by assumption)
      · exact rfl
      refine V_iret X dX8_subscription_94 ?_ ?_ ?_ ?_
      · exact rfl
      · dsimp only [rmm]; omega
      · dsimp only [rmm]; omega
      refine ⟨?_, rfl⟩
      rw [q_sub, if_pos hs.1, if_neg hs.2, if_neg t_14_0, if_neg t_14_1, if_neg t_14_2, if_neg t_14_3, if_pos t_14_4]
    by_cases t_14_5 : x = 5
    · refine V_tableIn (off := 81) X dX8_subscription_14 (by rw [t_14_5]; decide) (by rw [t_14_5]; decide) (by rw [t_14_5]; rfl) 95 (by decide) ?_
      refine V_aload_n X dX8_subscription_95 rfl rfl ?_
      apply V_get X dX8_subscription_96 fk_X8_292
      · exact at_sub (by assumption)
      · exact rfl
      refine V_callS1 X dX8_subscription_99 mk_X8_167 st_X8_asNumber (k_num l (S.1 28 (nn s))) (Nat.le_of_ble_eq_true rfl) ⟨Nat.le_of_ble_eq_true rfl, Nat.le_of_ble_eq_true rfl⟩ ?_ ?_
      · exact ⟨by dsimp only [rmm]; omega, by dsimp only [rmm]; omega⟩
      rintro r I1 ⟨rfl, rfl⟩
      refine V_iret X dX8_subscription_102 ?_ ?_ ?_ ?_
      · exact rfl
      · dsimp only [rmm]; omega
      · dsimp only [rmm]; omega
      refine ⟨?_, rfl⟩
      rw [q_sub, if_pos hs.1, if_neg hs.2, if_neg t_14_0, if_neg t_14_1, if_neg t_14_2, if_neg t_14_3, if_neg t_14_4, if_pos t_14_5]
    by_cases t_14_6 : x = 6
    · refine V_tableIn (off := 89) X dX8_subscription_14 (by rw [t_14_6]; decide) (by rw [t_14_6]; decide) (by rw [t_14_6]; rfl) 103 (by decide) ?_
      refine V_aload_n X dX8_subscription_103 rfl rfl ?_
      apply V_get X dX8_subscription_104 fk_X8_195
      · exact at_sub (by assumption)
      · exact rfl
      apply V_callV0 X dX8_subscription_107 mk_X8_59 iv_Jx4a65c_size_8abf5 (k_size l (x := nI (cn (siB S s) (nn (S.1 32 0)))) (h24.ov rfl rfl) (by rw [itL_len]; unfold itI; rw [fl_cn, ← es]))
      · exact ll_o (h24.ov rfl rfl)
      · exact rfl
      · exact Nat.le_of_ble_eq_true rfl
      · exact ⟨Nat.le_of_ble_eq_true rfl, Nat.le_of_ble_eq_true rfl⟩
      · exact ⟨by dsimp only [rmm]; omega, by dsimp only [rmm]; omega⟩
      rintro r I1 ⟨rfl, rfl⟩
      refine V_iret X dX8_subscription_110 ?_ ?_ ?_ ?_
      · exact rfl
      · dsimp only [rmm]; omega
      · dsimp only [rmm]; omega
      refine ⟨?_, rfl⟩
      rw [q_sub, if_pos hs.1, if_neg hs.2, if_neg t_14_0, if_neg t_14_1, if_neg t_14_2, if_neg t_14_3, if_neg t_14_4, if_neg t_14_5, if_pos t_14_6]
    by_cases t_14_7 : x = 7
    · refine V_tableIn (off := 97) X dX8_subscription_14 (by rw [t_14_7]; decide) (by rw [t_14_7]; decide) (by rw [t_14_7]; rfl) 111 (by decide) ?_
      refine V_aload_n X dX8_subscription_111 rfl rfl ?_
      apply V_get X dX8_subscription_112 fk_X8_295
      · exact at_sub (by assumption)
      · exact rfl
      apply V_callV0 X dX8_subscription_115 mk_X8_59 iv_Jx4a65c_size_8abf5 (k_size l (x := nI (kpA S s)) (h26.ov rfl rfl) (by rw [kpL_len]; unfold kpI kpA; rw [kp_len, ← es]))
      · exact ll_o (h26.ov rfl rfl)
      · exact rfl
      · exact Nat.le_of_ble_eq_true rfl
      · exact ⟨Nat.le_of_ble_eq_true rfl, Nat.le_of_ble_eq_true rfl⟩
      · exact ⟨by dsimp only [rmm]; omega, by dsimp only [rmm]; omega⟩
      rintro r I1 ⟨rfl, rfl⟩
      refine V_iret X dX8_subscription_118 ?_ ?_ ?_ ?_
      · exact rfl
      · dsimp only [rmm]; omega
      · dsimp only [rmm]; omega
      refine ⟨?_, rfl⟩
      rw [q_sub, if_pos hs.1, if_neg hs.2, if_neg t_14_0, if_neg t_14_1, if_neg t_14_2, if_neg t_14_3, if_neg t_14_4, if_neg t_14_5, if_neg t_14_6, if_pos t_14_7]
    by_cases t_14_8 : x = 8
    · refine V_tableIn (off := 105) X dX8_subscription_14 (by rw [t_14_8]; decide) (by rw [t_14_8]; decide) (by rw [t_14_8]; rfl) 119 (by decide) ?_
      refine V_aload_n X dX8_subscription_119 rfl rfl ?_
      apply V_callV0 X dX8_subscription_120 mk_X8_297 iv_X7_isReady (k_ready l hi h24 (R.ql hQ) h60 (by omega))
      · exact at_sub (by assumption)
      · exact rfl
      · exact Nat.le_of_ble_eq_true rfl
      · exact ⟨Nat.le_of_ble_eq_true rfl, Nat.le_of_ble_eq_true rfl⟩
      · exact ⟨by dsimp only [rmm]; omega, by dsimp only [rmm]; omega⟩
      rintro r I1 ⟨rfl, rfl⟩
      refine V_callS1 X dX8_subscription_123 mk_X8_167 st_X8_asNumber (k_num l _) (Nat.le_of_ble_eq_true rfl) ⟨Nat.le_of_ble_eq_true rfl, Nat.le_of_ble_eq_true rfl⟩ ?_ ?_
      · exact ⟨by dsimp only [rmm]; omega, by dsimp only [rmm]; omega⟩
      rintro r I1 ⟨rfl, rfl⟩
      refine V_iret X dX8_subscription_126 ?_ ?_ ?_ ?_
      · exact rfl
      · dsimp only [rmm]; omega
      · dsimp only [rmm]; omega
      refine ⟨?_, rfl⟩
      rw [q_sub, if_pos hs.1, if_neg hs.2, if_neg t_14_0, if_neg t_14_1, if_neg t_14_2, if_neg t_14_3, if_neg t_14_4, if_neg t_14_5, if_neg t_14_6, if_neg t_14_7, if_pos t_14_8]
      rw [← es]
      by_cases q : rdy S s
      · rw [if_pos q]; rfl
      · rw [if_neg q]; rfl
    have n_14_0 : (x).toInt ≠ 0 := fun q => t_14_0 ((fa_eq _ _).mpr (q.trans rfl))
    have n_14_1 : (x).toInt ≠ 1 := fun q => t_14_1 ((fa_eq _ _).mpr (q.trans rfl))
    have n_14_2 : (x).toInt ≠ 2 := fun q => t_14_2 ((fa_eq _ _).mpr (q.trans rfl))
    have n_14_3 : (x).toInt ≠ 3 := fun q => t_14_3 ((fa_eq _ _).mpr (q.trans rfl))
    have n_14_4 : (x).toInt ≠ 4 := fun q => t_14_4 ((fa_eq _ _).mpr (q.trans rfl))
    have n_14_5 : (x).toInt ≠ 5 := fun q => t_14_5 ((fa_eq _ _).mpr (q.trans rfl))
    have n_14_6 : (x).toInt ≠ 6 := fun q => t_14_6 ((fa_eq _ _).mpr (q.trans rfl))
    have n_14_7 : (x).toInt ≠ 7 := fun q => t_14_7 ((fa_eq _ _).mpr (q.trans rfl))
    have n_14_8 : (x).toInt ≠ 8 := fun q => t_14_8 ((fa_eq _ _).mpr (q.trans rfl))
    refine V_tableOut X dX8_subscription_14 (by omega) 127 (by decide) ?_
    refine V_bipush (v := (-9)) X dX8_subscription_127 (by decide) ?_
    refine V_iret X dX8_subscription_129 ?_ ?_ ?_ ?_
    · exact rfl
    · dsimp only [rmm]; omega
    · dsimp only [rmm]; omega
    refine ⟨?_, rfl⟩
    rw [q_sub, if_pos hs.1, if_neg hs.2, if_neg t_14_0, if_neg t_14_1, if_neg t_14_2, if_neg t_14_3, if_neg t_14_4, if_neg t_14_5, if_neg t_14_6, if_neg t_14_7, if_neg t_14_8]
  refine V_astore_n X dX8_subscription_5 (by decide) rfl rfl ?_
  refine V_aload_n X dX8_subscription_6 rfl rfl ?_
  refine V_ifnonnullN X dX8_subscription_7 ?_
  refine V_bipush (v := (-9)) X dX8_subscription_10 (by decide) ?_
  refine V_iret X dX8_subscription_12 ?_ ?_ ?_ ?_
  · exact rfl
  · dsimp only [rmm]; omega
  · dsimp only [rmm]; omega
  refine ⟨?_, rfl⟩
  by_cases q : isSub S s
  · rw [q_sub, if_pos q, if_pos (Decidable.byContradiction fun z => hs ⟨q, z⟩)]
  · rw [q_sub, if_neg q]
