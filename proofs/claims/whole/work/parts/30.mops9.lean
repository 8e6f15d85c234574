/-! items, acknowledging, again -/
theorem Iv.ent {c : Nat} {S : St} {s : Int32} (h : Iv c S) : Iv c (entS S s) := h.cong fun k hk i => ent_c (fun e => by rw [e] at hk; exact absurd hk (by decide)) i
abbrev okI (S : St) (s i : Int32) : Prop := (isIt S i ∧ ¬ S.1 33 (nn i) = 0) ∧ S.1 17 (nn (S.1 34 (nn i))) = s
def lkI (S : St) (s i : Int32) : Int32 := if 0 ≤ lackS S s then (if okI (entS S s) s i then 0 else -6) else lackS S s
theorem lkI_in {S : St} {s b : Int32} (h : ¬ 0 ≤ lkI S s b) : vp_in (-lkI S s b) 10 := by
  unfold lkI at h ⊢
  split at h
  · rename_i h0
    rw [if_pos h0]
    split at h
    · exact absurd (by decide) h
    · rename_i h1
      rw [if_neg h1]
      unfold vp_in
      decide
  · rename_i h0
    rw [if_neg h0]
    exact lackS_in h0
theorem lkI_ok {S : St} {s b : Int32} (h : 0 ≤ lkI S s b) : 0 ≤ lackS S s ∧ okI (entS S s) s b := by
  unfold lkI at h
  split at h
  · rename_i h0
    split at h
    · rename_i h1
      exact ⟨h0, h1⟩
    · exact absurd h (by decide)
  · rename_i h0
    exact absurd h h0
theorem sm_in {x : Int32} {b n : Nat} (h : sm x b) (hb : b < n) (hn : n < 2 ^ 31) : vp_in x n := by
  rw [h.1]
  exact vp_in_nI2 (by have := h.2; omega) (by have := h.2; omega)
theorem it_nat {S : St} {i : Int32} (h : ct S 32 60) (hi : isIt S i) : ∃ j, j < 60 ∧ j < nn (S.1 32 0) ∧ i = nI j := by
  obtain ⟨N, hN, e⟩ := h
  have h2 := hi.2
  rw [e] at h2
  obtain ⟨j, hj, ej⟩ := ix_of hi.1 h2 (by omega)
  exact ⟨j, by omega, by rw [e, nnI (by omega)]; exact hj, ej⟩
set_option maxRecDepth 100000 in
set_option maxHeartbeats 4000000 in
theorem c_lacksItem (l : Launch) {S : St} {J : aH} {s i : Int32} {c : Nat} (hI : Iv c S) : AM l yX9_lacksItem cX9_lacksItem 4 (some .int) (rmm 2 0 0 46) [.ref mO, .int s, .int i] (ovl S J) (fun r I' => r = some (.int (lkI S s i)) ∧ I' = ovl (entS S s) J) := by
  have hE := hI.ent (s := s)
  obtain ⟨N, hN, e32⟩ := id hE.1.2.2.1
  refine AM_of RX9 (by decide) rfl [some (.ref mO), some (.int s), some (.int i), none] rfl (Nat.le_of_ble_eq_true rfl) (fun Z X hNm => ?_)
  refine V_aload_n X dX9_lacksItem_0 rfl rfl ?_
  refine V_iload_n X dX9_lacksItem_1 rfl ?_
  apply V_callV1 X dX9_lacksItem_2 mk_X9_260 iv_X9_lacks (c_lacks l hI.1.1)
  · first | assumption | exact hu_s | exact (hu_n (by first | exact kd_nk (by decide) | exact kd_ni (by omega) | exact kd_ng (by omega) | assumption | exact Ne.symm (by assumption))).trans (by first | assumption | exact hu_s | exact (hu_n (by first | exact kd_nk (by decide) | exact kd_ni (by omega) | exact kd_ng (by omega) | assumption | exact Ne.symm (by assumption))).trans (by first | assumption | exact hu_s | exact (hu_n (by first | exact kd_nk (by decide) | exact kd_ni (by omega) | exact kd_ng (by omega) | assumption | exact Ne.symm (by assumption))).trans (by first | assumption | exact hu_s)))
  · exact rfl
  · exact Nat.le_of_ble_eq_true rfl
  · exact ⟨Nat.le_of_ble_eq_true rfl, Nat.le_of_ble_eq_true rfl⟩
  · exact ⟨by dsimp only [rmm]; omega, by dsimp only [rmm]; omega⟩
  rintro r I1 ⟨rfl, rfl⟩
  refine V_istore_n X dX9_lacksItem_5 (by decide) rfl ?_
  refine V_iload_n X dX9_lacksItem_6 rfl ?_
  refine V_if_ge X dX9_lacksItem_7 14 (by decide) (fun c_7 => ?_) (fun c_7 => ?_)
  · refine V_iload_n X dX9_lacksItem_14 rfl ?_
    refine V_i2l X dX9_lacksItem_15 ?_
    refine V_lconst (v := 0) X dX9_lacksItem_16 (by decide) ?_
    refine V_aload_n X dX9_lacksItem_17 rfl rfl ?_
    refine M_geti X dX9_lacksItem_18 fk_X9_202 (by decide) rfl ?_
    refine V_iconst (v := 1) X dX9_lacksItem_21 (by decide) ?_
    refine V_isub X dX9_lacksItem_22 ?_
    refine V_i2l X dX9_lacksItem_23 ?_
    refine V_callS3 X dX9_lacksItem_24 mk_X9_171 st_X9_in (c_inX l (N := N) (by omega) e32) (Nat.le_of_ble_eq_true rfl) ⟨Nat.le_of_ble_eq_true rfl, Nat.le_of_ble_eq_true rfl⟩ ?_ ?_
    · exact ⟨by dsimp only [rmm]; omega, by dsimp only [rmm]; omega⟩
    rintro r I1 ⟨rfl, rfl⟩
    refine V_if_eq X dX9_lacksItem_27 54 (by decide) (fun c_27 => ?_) (fun c_27 => ?_)
    · have h_27 := bz_f c_27
      have hz : ¬ okI (entS S s) s i := fun q => h_27 q.1.1
      refine V_bipush (v := (-6)) X dX9_lacksItem_54 (by decide) ?_
      refine V_goto X dX9_lacksItem_56 60 (by decide) ?_
      refine V_iret X dX9_lacksItem_60 ?_ ?_ ?_ ?_
      · exact rfl
      · dsimp only [rmm]; omega
      · dsimp only [rmm]; omega
      exact ⟨by rw [lkI, if_pos c_7, if_neg hz], rfl⟩
    have h_27 := bz_t c_27
    obtain ⟨j, hj, hj2, ej⟩ := it_nat hE.1.2.2.1 h_27
    subst ej
    refine V_aload_n X dX9_lacksItem_30 rfl rfl ?_
    refine M_geta X dX9_lacksItem_31 fk_X9_90 (by decide) rfl ?_
    refine V_iload_n X dX9_lacksItem_34 rfl ?_
    refine M_zaldN X dX9_lacksItem_35 (by decide) rfl (by omega) (by decide) ?_
    refine V_if_eq X dX9_lacksItem_36 54 (by decide) (fun c_36 => ?_) (fun c_36 => ?_)
    · have hz : ¬ okI (entS S s) s (nI j) := fun q => q.1.2 (by rw [nnI (by omega)]; exact c_36)
      refine V_bipush (v := (-6)) X dX9_lacksItem_54 (by decide) ?_
      refine V_goto X dX9_lacksItem_56 60 (by decide) ?_
      refine V_iret X dX9_lacksItem_60 ?_ ?_ ?_ ?_
      · exact rfl
      · dsimp only [rmm]; omega
      · dsimp only [rmm]; omega
      exact ⟨by rw [lkI, if_pos c_7, if_neg hz], rfl⟩
    refine V_aload_n X dX9_lacksItem_39 rfl rfl ?_
    refine M_geta X dX9_lacksItem_40 fk_X9_48 (by decide) rfl ?_
    refine V_aload_n X dX9_lacksItem_43 rfl rfl ?_
    refine M_geta X dX9_lacksItem_44 fk_X9_93 (by decide) rfl ?_
    refine V_iload_n X dX9_lacksItem_47 rfl ?_
    refine M_ialdN X dX9_lacksItem_48 (by decide) rfl (by omega) (by decide) ?_
    refine M_iald X dX9_lacksItem_49 (by decide) rfl (sm_in (hE.2.1 j hj).2.2.2.2 (by decide) (by decide)) ?_
    refine V_iload_n X dX9_lacksItem_50 rfl ?_
    refine V_icmp_eq X dX9_lacksItem_51 59 (by decide) (fun c_51 => ?_) (fun c_51 => ?_)
    · have hz : okI (entS S s) s (nI j) := by
        refine ⟨⟨h_27, ?_⟩, ?_⟩
        · rw [nnI (by omega)]; exact c_36
        · rw [nnI (by omega)]; exact c_51
      refine V_iconst (v := 0) X dX9_lacksItem_59 (by decide) ?_
      refine V_iret X dX9_lacksItem_60 ?_ ?_ ?_ ?_
      · exact rfl
      · dsimp only [rmm]; omega
      · dsimp only [rmm]; omega
      exact ⟨by rw [lkI, if_pos c_7, if_pos hz], rfl⟩
    have hz : ¬ okI (entS S s) s (nI j) := fun q => c_51 (by have := q.2; rw [nnI (by omega)] at this; exact this)
    refine V_bipush (v := (-6)) X dX9_lacksItem_54 (by decide) ?_
    refine V_goto X dX9_lacksItem_56 60 (by decide) ?_
    refine V_iret X dX9_lacksItem_60 ?_ ?_ ?_ ?_
    · exact rfl
    · dsimp only [rmm]; omega
    · dsimp only [rmm]; omega
    exact ⟨by rw [lkI, if_pos c_7, if_neg hz], rfl⟩
  refine V_iload_n X dX9_lacksItem_10 rfl ?_
  refine V_goto X dX9_lacksItem_11 60 (by decide) ?_
  refine V_iret X dX9_lacksItem_60 ?_ ?_ ?_ ?_
  · exact rfl
  · dsimp only [rmm]; omega
  · dsimp only [rmm]; omega
  exact ⟨by rw [lkI, if_neg c_7], rfl⟩
def modeS (S : St) (i : Nat) (m : Int32) : St := let S2 := pa S 40 i m; let S3 := pa S2 26 (nn (S2.1 34 i)) (S2.1 21 (nn (S2.1 34 i))); if m = 0 then pa (pa S3 44 i 0) 42 i 0 else if S.1 40 i = 0 then sampleS (pa S3 42 i 0) i else S3
def op_mode (S : St) (s i m : Int32) : St × Int32 := let S1 := entS S s; if 0 ≤ lkI S s i then (if 0 ≤ m ∧ m ≤ 2 then (modeS S1 (nn i) m, S1.1 40 (nn i)) else rr S1 (-7)) else rr S1 (lkI S s i)
def dropS (S : St) (i : Nat) : St := let S2 := pa S 33 i 0; pa S2 26 (nn (S2.1 34 i)) (S2.1 21 (nn (S2.1 34 i)))
def op_drop (S : St) (s i : Int32) : St × Int32 := let S1 := entS S s; if 0 ≤ lkI S s i then (dropS S1 (nn i), (dropS S1 (nn i)).1 44 (nn i)) else rr S1 (lkI S s i)
set_option maxRecDepth 100000 in
set_option maxHeartbeats 4000000 in
theorem m_mode (l : Launch) {S : St} {J : aH} {s i m : Int32} {c : Nat} (hI : Iv c S) : AM l yX9_mode cX9_mode 6 (some .int) (rmm 3 0 0 70) [.ref mO, .int s, .int i, .int m] (ovl S J) (fun r I' => r = some (.int (op_mode S s i m).2) ∧ I' = ovl (op_mode S s i m).1 J) := by
  have hE := hI.ent (s := s)
  refine AM_of RX9 (by decide) rfl [some (.ref mO), some (.int s), some (.int i), some (.int m), none, none] rfl (Nat.le_of_ble_eq_true rfl) (fun Z X hNm => ?_)
  refine V_aload_n X dX9_mode_0 rfl rfl ?_
  refine V_iload_n X dX9_mode_1 rfl ?_
  refine V_iload_n X dX9_mode_2 rfl ?_
  apply V_callV2 X dX9_mode_3 mk_X9_289 iv_X9_lacksItem (c_lacksItem l hI)
  · first | assumption | exact hu_s | exact (hu_n (by first | exact kd_nk (by decide) | exact kd_ni (by omega) | exact kd_ng (by omega) | assumption | exact Ne.symm (by assumption))).trans (by first | assumption | exact hu_s | exact (hu_n (by first | exact kd_nk (by decide) | exact kd_ni (by omega) | exact kd_ng (by omega) | assumption | exact Ne.symm (by assumption))).trans (by first | assumption | exact hu_s | exact (hu_n (by first | exact kd_nk (by decide) | exact kd_ni (by omega) | exact kd_ng (by omega) | assumption | exact Ne.symm (by assumption))).trans (by first | assumption | exact hu_s)))
  · exact rfl
  · exact Nat.le_of_ble_eq_true rfl
  · exact ⟨Nat.le_of_ble_eq_true rfl, Nat.le_of_ble_eq_true rfl⟩
  · exact ⟨by dsimp only [rmm]; omega, by dsimp only [rmm]; omega⟩
  rintro r I1 ⟨rfl, rfl⟩
  refine V_istore X dX9_mode_6 (by decide) rfl ?_
  refine V_iload X dX9_mode_8 rfl ?_
  refine V_if_ge X dX9_mode_10 18 (by decide) (fun c_10 => ?_) (fun c_10 => ?_)
  · refine V_iload_n X dX9_mode_18 rfl ?_
    refine V_i2l X dX9_mode_19 ?_
    refine V_lconst (v := 0) X dX9_mode_20 (by decide) ?_
    refine V_ldc2 X dX9_mode_21 kc_X9_169 ?_
    refine V_callS3 X dX9_mode_24 mk_X9_171 st_X9_in (c_inI l (x := m) (lo := 0) (hi := 2) rfl rfl) (Nat.le_of_ble_eq_true rfl) ⟨Nat.le_of_ble_eq_true rfl, Nat.le_of_ble_eq_true rfl⟩ ?_ ?_
    · exact ⟨by dsimp only [rmm]; omega, by dsimp only [rmm]; omega⟩
    rintro r I1 ⟨rfl, rfl⟩
    refine V_if_ne X dX9_mode_27 35 (by decide) (fun c_27 => ?_) (fun c_27 => ?_)
    · have h_27 := bz_t c_27
      refine V_iconst (v := 0) X dX9_mode_35 (by decide) ?_
      refine V_istore X dX9_mode_36 (by decide) rfl ?_
      refine V_iload X dX9_mode_38 rfl ?_
      refine V_if_ge X dX9_mode_40 50 (by decide) (fun c_40 => ?_) (fun c_40 => ?_)
      · obtain ⟨j, hj, hj2, ej⟩ := it_nat hE.1.2.2.1 (lkI_ok c_10).2.1.1
        subst ej
        have hs34 := (hE.2.1 j hj).2.2.2.2
        refine V_aload_n X dX9_mode_50 rfl rfl ?_
        refine M_geta X dX9_mode_51 fk_X9_111 (by decide) rfl ?_
        refine V_iload_n X dX9_mode_54 rfl ?_
        refine M_ialdN X dX9_mode_55 (by decide) rfl (by omega) (by decide) ?_
        refine V_istore X dX9_mode_56 (by decide) rfl ?_
        refine V_aload_n X dX9_mode_58 rfl rfl ?_
        refine M_geta X dX9_mode_59 fk_X9_111 (by decide) rfl ?_
        refine V_iload_n X dX9_mode_62 rfl ?_
        refine V_iload_n X dX9_mode_63 rfl ?_
        refine M_iastN X dX9_mode_64 (by decide) rfl (by omega) (by decide) ?_
        refine V_aload_n X dX9_mode_65 rfl rfl ?_
        refine M_geta X dX9_mode_66 fk_X9_75 (by decide) rfl ?_
        refine V_aload_n X dX9_mode_69 rfl rfl ?_
        refine M_geta X dX9_mode_70 fk_X9_93 (by decide) rfl ?_
        refine V_iload_n X dX9_mode_73 rfl ?_
        refine M_ialdN X dX9_mode_74 (by decide) rfl (by omega) (by decide) ?_
        refine V_aload_n X dX9_mode_75 rfl rfl ?_
        refine M_geta X dX9_mode_76 fk_X9_60 (by decide) rfl ?_
        refine V_aload_n X dX9_mode_79 rfl rfl ?_
        refine M_geta X dX9_mode_80 fk_X9_93 (by decide) rfl ?_
        refine V_iload_n X dX9_mode_83 rfl ?_
        refine M_ialdN X dX9_mode_84 (by decide) rfl (by omega) (by decide) ?_
        refine M_iald X dX9_mode_85 (by decide) rfl (sm_in (by rw [pa_n _ _ (by decide)]; exact hs34) (by decide) (by decide)) ?_
        refine M_iast X dX9_mode_86 (by decide) rfl (sm_in (by rw [pa_n _ _ (by decide)]; exact hs34) (by decide) (by decide)) ?_
        refine V_iload_n X dX9_mode_87 rfl ?_
        refine V_if_ne X dX9_mode_88 108 (by decide) (fun c_88 => ?_) (fun c_88 => ?_)
        · refine V_iload X dX9_mode_108 rfl ?_
          refine V_if_ne X dX9_mode_110 125 (by decide) (fun c_110 => ?_) (fun c_110 => ?_)
          · refine V_iload X dX9_mode_125 rfl ?_
            refine V_iret X dX9_mode_127 ?_ ?_ ?_ ?_
            · exact rfl
            · dsimp only [rmm]; omega
            · dsimp only [rmm]; omega
            refine ⟨?_, ?_⟩ <;> simp only [op_mode, modeS, if_pos c_10, if_pos h_27, nnI (show j < 2 ^ 31 by omega), if_neg c_88, if_neg c_110]
          refine V_aload_n X dX9_mode_113 rfl rfl ?_
          refine M_geta X dX9_mode_114 fk_X9_117 (by decide) rfl ?_
          refine V_iload_n X dX9_mode_117 rfl ?_
          refine V_iconst (v := 0) X dX9_mode_118 (by decide) ?_
          refine M_zastN X dX9_mode_119 (by decide) rfl (by omega) (by decide) (rfl) ?_
          have hS4 : Iv c (pa (pa (pa (entS S s) 40 j m) 26 (nn ((pa (entS S s) 40 j m).1 34 j)) ((pa (entS S s) 40 j m).1 21 (nn ((pa (entS S s) 40 j m).1 34 j)))) 42 j 0) := ((hE.put rfl).put rfl).put rfl
          refine V_aload_n X dX9_mode_120 rfl rfl ?_
          refine V_iload_n X dX9_mode_121 rfl ?_
          apply V_callV1 X dX9_mode_122 mk_X9_242 iv_X9_sample (c_sample l hj (hS4.2.1 j hj) (hS4.2.2.2.2.2.2 j (by simp [pa_1]; exact hj2)).2.2)
          · first | assumption | exact hu_s | exact (hu_n (by first | exact kd_nk (by decide) | exact kd_ni (by omega) | exact kd_ng (by omega) | assumption | exact Ne.symm (by assumption))).trans (by first | assumption | exact hu_s | exact (hu_n (by first | exact kd_nk (by decide) | exact kd_ni (by omega) | exact kd_ng (by omega) | assumption | exact Ne.symm (by assumption))).trans (by first | assumption | exact hu_s | exact (hu_n (by first | exact kd_nk (by decide) | exact kd_ni (by omega) | exact kd_ng (by omega) | assumption | exact Ne.symm (by assumption))).trans (by first | assumption | exact hu_s)))
          · exact rfl
          · exact Nat.le_of_ble_eq_true rfl
          · exact ⟨Nat.le_of_ble_eq_true rfl, Nat.le_of_ble_eq_true rfl⟩
          · exact ⟨by dsimp only [rmm]; omega, by dsimp only [rmm]; omega⟩
          rintro r I1 ⟨rfl, rfl⟩
          refine V_iload X dX9_mode_125 rfl ?_
          refine V_iret X dX9_mode_127 ?_ ?_ ?_ ?_
          · exact rfl
          · dsimp only [rmm]; omega
          · dsimp only [rmm]; omega
          refine ⟨?_, ?_⟩ <;> simp only [op_mode, modeS, if_pos c_10, if_pos h_27, nnI (show j < 2 ^ 31 by omega), if_neg c_88, if_pos c_110]
        refine V_aload_n X dX9_mode_91 rfl rfl ?_
        refine M_geta X dX9_mode_92 fk_X9_123 (by decide) rfl ?_
        refine V_iload_n X dX9_mode_95 rfl ?_
        refine V_iconst (v := 0) X dX9_mode_96 (by decide) ?_
        refine M_iastN X dX9_mode_97 (by decide) rfl (by omega) (by decide) ?_
        refine V_aload_n X dX9_mode_98 rfl rfl ?_
        refine M_geta X dX9_mode_99 fk_X9_117 (by decide) rfl ?_
        refine V_iload_n X dX9_mode_102 rfl ?_
        refine V_iconst (v := 0) X dX9_mode_103 (by decide) ?_
        refine M_zastN X dX9_mode_104 (by decide) rfl (by omega) (by decide) (rfl) ?_
        refine V_goto X dX9_mode_105 125 (by decide) ?_
        refine V_iload X dX9_mode_125 rfl ?_
        refine V_iret X dX9_mode_127 ?_ ?_ ?_ ?_
        · exact rfl
        · dsimp only [rmm]; omega
        · dsimp only [rmm]; omega
        refine ⟨?_, ?_⟩ <;> simp only [op_mode, modeS, if_pos c_10, if_pos h_27, nnI (show j < 2 ^ 31 by omega), if_pos c_88]
      · exact absurd c_40 (by decide)
    have h_27 := bz_f c_27
    refine V_bipush (v := (-7)) X dX9_mode_30 (by decide) ?_
    refine V_goto X dX9_mode_32 36 (by decide) ?_
    refine V_istore X dX9_mode_36 (by decide) rfl ?_
    refine V_iload X dX9_mode_38 rfl ?_
    refine V_if_ge X dX9_mode_40 50 (by decide) (fun c_40 => ?_) (fun c_40 => ?_)
    · exact absurd c_40 (by decide)
    refine V_aload_n X dX9_mode_43 rfl rfl ?_
    refine V_iload X dX9_mode_44 rfl ?_
    apply V_callV1 X dX9_mode_46 mk_X9_175 iv_X9_refuse (c_refuse9 l (x := -7) (by unfold vp_in; decide))
    · first | assumption | exact hu_s | exact (hu_n (by first | exact kd_nk (by decide) | exact kd_ni (by omega) | exact kd_ng (by omega) | assumption | exact Ne.symm (by assumption))).trans (by first | assumption | exact hu_s | exact (hu_n (by first | exact kd_nk (by decide) | exact kd_ni (by omega) | exact kd_ng (by omega) | assumption | exact Ne.symm (by assumption))).trans (by first | assumption | exact hu_s | exact (hu_n (by first | exact kd_nk (by decide) | exact kd_ni (by omega) | exact kd_ng (by omega) | assumption | exact Ne.symm (by assumption))).trans (by first | assumption | exact hu_s)))
    · exact rfl
    · exact Nat.le_of_ble_eq_true rfl
    · exact ⟨Nat.le_of_ble_eq_true rfl, Nat.le_of_ble_eq_true rfl⟩
    · exact ⟨by dsimp only [rmm]; omega, by dsimp only [rmm]; omega⟩
    rintro r I1 ⟨rfl, rfl⟩
    refine V_iret X dX9_mode_49 ?_ ?_ ?_ ?_
    · exact rfl
    · dsimp only [rmm]; omega
    · dsimp only [rmm]; omega
    refine ⟨?_, ?_⟩ <;> rw [op_mode, if_pos c_10, if_neg h_27]
  refine V_iload X dX9_mode_13 rfl ?_
  refine V_goto X dX9_mode_15 36 (by decide) ?_
  refine V_istore X dX9_mode_36 (by decide) rfl ?_
  refine V_iload X dX9_mode_38 rfl ?_
  refine V_if_ge X dX9_mode_40 50 (by decide) (fun c_40 => ?_) (fun c_40 => ?_)
  · exact absurd c_40 c_10
  refine V_aload_n X dX9_mode_43 rfl rfl ?_
  refine V_iload X dX9_mode_44 rfl ?_
  apply V_callV1 X dX9_mode_46 mk_X9_175 iv_X9_refuse (c_refuse9 l (x := lkI S s i) (lkI_in c_10))
  · first | assumption | exact hu_s | exact (hu_n (by first | exact kd_nk (by decide) | exact kd_ni (by omega) | exact kd_ng (by omega) | assumption | exact Ne.symm (by assumption))).trans (by first | assumption | exact hu_s | exact (hu_n (by first | exact kd_nk (by decide) | exact kd_ni (by omega) | exact kd_ng (by omega) | assumption | exact Ne.symm (by assumption))).trans (by first | assumption | exact hu_s | exact (hu_n (by first | exact kd_nk (by decide) | exact kd_ni (by omega) | exact kd_ng (by omega) | assumption | exact Ne.symm (by assumption))).trans (by first | assumption | exact hu_s)))
  · exact rfl
  · exact Nat.le_of_ble_eq_true rfl
  · exact ⟨Nat.le_of_ble_eq_true rfl, Nat.le_of_ble_eq_true rfl⟩
  · exact ⟨by dsimp only [rmm]; omega, by dsimp only [rmm]; omega⟩
  rintro r I1 ⟨rfl, rfl⟩
  refine V_iret X dX9_mode_49 ?_ ?_ ?_ ?_
  · exact rfl
  · dsimp only [rmm]; omega
  · dsimp only [rmm]; omega
  refine ⟨?_, ?_⟩ <;> rw [op_mode, if_neg c_10]
set_option maxRecDepth 100000 in
set_option maxHeartbeats 4000000 in
theorem m_drop (l : Launch) {S : St} {J : aH} {s i : Int32} {c : Nat} (hI : Iv c S) : AM l yX9_drop cX9_drop 4 (some .int) (rmm 3 0 0 70) [.ref mO, .int s, .int i] (ovl S J) (fun r I' => r = some (.int (op_drop S s i).2) ∧ I' = ovl (op_drop S s i).1 J) := by
  have hE := hI.ent (s := s)
  refine AM_of RX9 (by decide) rfl [some (.ref mO), some (.int s), some (.int i), none] rfl (Nat.le_of_ble_eq_true rfl) (fun Z X hNm => ?_)
  refine V_aload_n X dX9_drop_0 rfl rfl ?_
  refine V_iload_n X dX9_drop_1 rfl ?_
  refine V_iload_n X dX9_drop_2 rfl ?_
  apply V_callV2 X dX9_drop_3 mk_X9_289 iv_X9_lacksItem (c_lacksItem l hI)
  · first | assumption | exact hu_s | exact (hu_n (by first | exact kd_nk (by decide) | exact kd_ni (by omega) | exact kd_ng (by omega) | assumption | exact Ne.symm (by assumption))).trans (by first | assumption | exact hu_s | exact (hu_n (by first | exact kd_nk (by decide) | exact kd_ni (by omega) | exact kd_ng (by omega) | assumption | exact Ne.symm (by assumption))).trans (by first | assumption | exact hu_s | exact (hu_n (by first | exact kd_nk (by decide) | exact kd_ni (by omega) | exact kd_ng (by omega) | assumption | exact Ne.symm (by assumption))).trans (by first | assumption | exact hu_s)))
  · exact rfl
  · exact Nat.le_of_ble_eq_true rfl
  · exact ⟨Nat.le_of_ble_eq_true rfl, Nat.le_of_ble_eq_true rfl⟩
  · exact ⟨by dsimp only [rmm]; omega, by dsimp only [rmm]; omega⟩
  rintro r I1 ⟨rfl, rfl⟩
  refine V_istore_n X dX9_drop_6 (by decide) rfl ?_
  refine V_iload_n X dX9_drop_7 rfl ?_
  refine V_if_ge X dX9_drop_8 17 (by decide) (fun c_8 => ?_) (fun c_8 => ?_)
  · obtain ⟨j, hj, hj2, ej⟩ := it_nat hE.1.2.2.1 (lkI_ok c_8).2.1.1
    subst ej
    have hs34 := (hE.2.1 j hj).2.2.2.2
    refine V_aload_n X dX9_drop_17 rfl rfl ?_
    refine M_geta X dX9_drop_18 fk_X9_90 (by decide) rfl ?_
    refine V_iload_n X dX9_drop_21 rfl ?_
    refine V_iconst (v := 0) X dX9_drop_22 (by decide) ?_
    refine M_zastN X dX9_drop_23 (by decide) rfl (by omega) (by decide) (rfl) ?_
    refine V_aload_n X dX9_drop_24 rfl rfl ?_
    refine M_geta X dX9_drop_25 fk_X9_75 (by decide) rfl ?_
    refine V_aload_n X dX9_drop_28 rfl rfl ?_
    refine M_geta X dX9_drop_29 fk_X9_93 (by decide) rfl ?_
    refine V_iload_n X dX9_drop_32 rfl ?_
    refine M_ialdN X dX9_drop_33 (by decide) rfl (by omega) (by decide) ?_
    refine V_aload_n X dX9_drop_34 rfl rfl ?_
    refine M_geta X dX9_drop_35 fk_X9_60 (by decide) rfl ?_
    refine V_aload_n X dX9_drop_38 rfl rfl ?_
    refine M_geta X dX9_drop_39 fk_X9_93 (by decide) rfl ?_
    refine V_iload_n X dX9_drop_42 rfl ?_
    refine M_ialdN X dX9_drop_43 (by decide) rfl (by omega) (by decide) ?_
    refine M_iald X dX9_drop_44 (by decide) rfl (sm_in (by rw [pa_n _ _ (by decide)]; exact hs34) (by decide) (by decide)) ?_
    refine M_iast X dX9_drop_45 (by decide) rfl (sm_in (by rw [pa_n _ _ (by decide)]; exact hs34) (by decide) (by decide)) ?_
    refine V_aload_n X dX9_drop_46 rfl rfl ?_
    refine M_geta X dX9_drop_47 fk_X9_123 (by decide) rfl ?_
    refine V_iload_n X dX9_drop_50 rfl ?_
    refine M_ialdN X dX9_drop_51 (by decide) rfl (by omega) (by decide) ?_
    refine V_iret X dX9_drop_52 ?_ ?_ ?_ ?_
    · exact rfl
    · dsimp only [rmm]; omega
    · dsimp only [rmm]; omega
    refine ⟨?_, ?_⟩ <;> simp only [op_drop, dropS, if_pos c_8, nnI (show j < 2 ^ 31 by omega)]
  refine V_aload_n X dX9_drop_11 rfl rfl ?_
  refine V_iload_n X dX9_drop_12 rfl ?_
  apply V_callV1 X dX9_drop_13 mk_X9_175 iv_X9_refuse (c_refuse9 l (x := lkI S s i) (lkI_in c_8))
  · first | assumption | exact hu_s | exact (hu_n (by first | exact kd_nk (by decide) | exact kd_ni (by omega) | exact kd_ng (by omega) | assumption | exact Ne.symm (by assumption))).trans (by first | assumption | exact hu_s | exact (hu_n (by first | exact kd_nk (by decide) | exact kd_ni (by omega) | exact kd_ng (by omega) | assumption | exact Ne.symm (by assumption))).trans (by first | assumption | exact hu_s | exact (hu_n (by first | exact kd_nk (by decide) | exact kd_ni (by omega) | exact kd_ng (by omega) | assumption | exact Ne.symm (by assumption))).trans (by first | assumption | exact hu_s)))
  · exact rfl
  · exact Nat.le_of_ble_eq_true rfl
  · exact ⟨Nat.le_of_ble_eq_true rfl, Nat.le_of_ble_eq_true rfl⟩
  · exact ⟨by dsimp only [rmm]; omega, by dsimp only [rmm]; omega⟩
  rintro r I1 ⟨rfl, rfl⟩
  refine V_iret X dX9_drop_16 ?_ ?_ ?_ ?_
  · exact rfl
  · dsimp only [rmm]; omega
  · dsimp only [rmm]; omega
  refine ⟨?_, ?_⟩ <;> rw [op_drop, if_neg c_8]
abbrev goodI (ev sz m : Int32) (wd : Int64) : Prop := (1 ≤ ev ∧ ev ≤ 100) ∧ (1 ≤ sz ∧ sz ≤ 8) ∧ (0 ≤ m ∧ m ≤ 2) ∧ ¬ wd < 0
def itS (S : St) (N : Nat) (b n ev sz od m : Int32) (wd : Int64) : St := let A := pa S 32 0 (nI (N + 1)); let B := pa (pa (pa A 33 N 1) 34 N b) 35 N n; let C := pa B 36 N (B.1 0 0); let D := pb (pa (pa (pa (pa C 37 N ev) 38 N sz) 39 N od) 40 N m) 41 N wd; pa D 26 (nn b) (D.1 21 (nn b))
def op_item (S : St) (s b n ev sz od m : Int32) (wd : Int64) : St × Int32 := let S1 := entS S s; if 0 ≤ lkB S s b then (if isVr S1 n then (if goodI ev sz m wd then (if S1.1 32 0 = 60 then rr S1 (-8) else (let N := nn (S1.1 32 0); let T := itS S1 N b n ev sz od m wd; (if m ≤ 0 then T else sampleS T N, nI N))) else rr S1 (-7)) else rr S1 (-4)) else rr S1 (lkB S s b)
set_option maxRecDepth 100000 in
set_option maxHeartbeats 4000000 in
theorem m_item (l : Launch) {S : St} {J : aH} {s b n ev sz od m : Int32} {wd : Int64} {c : Nat} (hI : Iv c S) (h1 : ct S 1 40) (hod : vp_nar .boolean od = od) (h44 : S.1 44 (nn (S.1 32 0)) = 0) : AM l yX9_item cX9_item 13 (some .int) (rmm 3 0 0 70) [.ref mO, .int s, .int b, .int n, .int ev, .int sz, .int od, .int m, .long wd] (ovl S J) (fun r I' => r = some (.int (op_item S s b n ev sz od m wd).2) ∧ I' = ovl (op_item S s b n ev sz od m wd).1 J) := by
  have hE := hI.ent (s := s)
  refine AM_of RX9 (by decide) rfl [some (.ref mO), some (.int s), some (.int b), some (.int n), some (.int ev), some (.int sz), some (.int od), some (.int m), some (.long wd), none, none, none, none] rfl (Nat.le_of_ble_eq_true rfl) (fun Z X hNm => ?_)
  refine V_aload_n X dX9_item_0 rfl rfl ?_
  refine V_iload_n X dX9_item_1 rfl ?_
  refine V_iload_n X dX9_item_2 rfl ?_
  apply V_callV2 X dX9_item_3 mk_X9_283 iv_X9_lacksSub (c_lacksSub l hI.1.1 hI.1.2.1)
  · first | assumption | exact hu_s | exact (hu_n (by first | exact kd_nk (by decide) | exact kd_ni (by omega) | exact kd_ng (by omega) | assumption | exact Ne.symm (by assumption))).trans (by first | assumption | exact hu_s | exact (hu_n (by first | exact kd_nk (by decide) | exact kd_ni (by omega) | exact kd_ng (by omega) | assumption | exact Ne.symm (by assumption))).trans (by first | assumption | exact hu_s | exact (hu_n (by first | exact kd_nk (by decide) | exact kd_ni (by omega) | exact kd_ng (by omega) | assumption | exact Ne.symm (by assumption))).trans (by first | assumption | exact hu_s)))
  · exact rfl
  · exact Nat.le_of_ble_eq_true rfl
  · exact ⟨Nat.le_of_ble_eq_true rfl, Nat.le_of_ble_eq_true rfl⟩
  · exact ⟨by dsimp only [rmm]; omega, by dsimp only [rmm]; omega⟩
  rintro r I1 ⟨rfl, rfl⟩
  refine V_istore X dX9_item_6 (by decide) rfl ?_
  refine V_iload X dX9_item_8 rfl ?_
  refine V_i2l X dX9_item_10 ?_
  refine V_lconst (v := 1) X dX9_item_11 (by decide) ?_
  refine V_ldc2 X dX9_item_12 kc_X9_267 ?_
  refine V_callS3 X dX9_item_15 mk_X9_171 st_X9_in (c_inI l (x := ev) (lo := 1) (hi := 100) rfl rfl) (Nat.le_of_ble_eq_true rfl) ⟨Nat.le_of_ble_eq_true rfl, Nat.le_of_ble_eq_true rfl⟩ ?_ ?_
  · exact ⟨by dsimp only [rmm]; omega, by dsimp only [rmm]; omega⟩
  rintro r I1 ⟨rfl, rfl⟩
  refine V_if_eq X dX9_item_18 58 (by decide) (fun c_18 => ?_) (fun c_18 => ?_)
  · have h_18 := bz_f c_18
    have hz : ¬ goodI ev sz m wd := fun q => h_18 q.1
    refine V_iconst (v := 0) X dX9_item_58 (by decide) ?_
    refine V_istore X dX9_item_59 (by decide) rfl ?_
    refine V_iload X dX9_item_61 rfl ?_
    refine V_if_ge X dX9_item_63 71 (by decide) (fun c_63 => ?_) (fun c_63 => ?_)
    · refine V_aload_n X dX9_item_71 rfl rfl ?_
      refine V_iload_n X dX9_item_72 rfl ?_
      apply V_callV1 X dX9_item_73 mk_X9_192 iv_X9_isVariable (c_isVar9 l (ct_ent h1 (by decide)))
      · first | assumption | exact hu_s | exact (hu_n (by first | exact kd_nk (by decide) | exact kd_ni (by omega) | exact kd_ng (by omega) | assumption | exact Ne.symm (by assumption))).trans (by first | assumption | exact hu_s | exact (hu_n (by first | exact kd_nk (by decide) | exact kd_ni (by omega) | exact kd_ng (by omega) | assumption | exact Ne.symm (by assumption))).trans (by first | assumption | exact hu_s | exact (hu_n (by first | exact kd_nk (by decide) | exact kd_ni (by omega) | exact kd_ng (by omega) | assumption | exact Ne.symm (by assumption))).trans (by first | assumption | exact hu_s)))
      · exact rfl
      · exact Nat.le_of_ble_eq_true rfl
      · exact ⟨Nat.le_of_ble_eq_true rfl, Nat.le_of_ble_eq_true rfl⟩
      · exact ⟨by dsimp only [rmm]; omega, by dsimp only [rmm]; omega⟩
      rintro r I1 ⟨rfl, rfl⟩
      refine V_if_ne X dX9_item_76 84 (by decide) (fun c_76 => ?_) (fun c_76 => ?_)
      · have h_76 := bz_t c_76
        refine V_iload X dX9_item_84 rfl ?_
        refine V_if_ne X dX9_item_86 94 (by decide) (fun c_86 => ?_) (fun c_86 => ?_)
        · exact absurd c_86 (by decide)
        refine V_bipush (v := (-7)) X dX9_item_89 (by decide) ?_
        refine V_goto X dX9_item_91 109 (by decide) ?_
        refine V_istore X dX9_item_109 (by decide) rfl ?_
        refine V_iload X dX9_item_111 rfl ?_
        refine V_if_ge X dX9_item_113 123 (by decide) (fun c_113 => ?_) (fun c_113 => ?_)
        · exact absurd c_113 (by decide)
        refine V_aload_n X dX9_item_116 rfl rfl ?_
        refine V_iload X dX9_item_117 rfl ?_
        apply V_callV1 X dX9_item_119 mk_X9_175 iv_X9_refuse (c_refuse9 l (x := -7) (by unfold vp_in; decide))
        · first | assumption | exact hu_s | exact (hu_n (by first | exact kd_nk (by decide) | exact kd_ni (by omega) | exact kd_ng (by omega) | assumption | exact Ne.symm (by assumption))).trans (by first | assumption | exact hu_s | exact (hu_n (by first | exact kd_nk (by decide) | exact kd_ni (by omega) | exact kd_ng (by omega) | assumption | exact Ne.symm (by assumption))).trans (by first | assumption | exact hu_s | exact (hu_n (by first | exact kd_nk (by decide) | exact kd_ni (by omega) | exact kd_ng (by omega) | assumption | exact Ne.symm (by assumption))).trans (by first | assumption | exact hu_s)))
        · exact rfl
        · exact Nat.le_of_ble_eq_true rfl
        · exact ⟨Nat.le_of_ble_eq_true rfl, Nat.le_of_ble_eq_true rfl⟩
        · exact ⟨by dsimp only [rmm]; omega, by dsimp only [rmm]; omega⟩
        rintro r I1 ⟨rfl, rfl⟩
        refine V_iret X dX9_item_122 ?_ ?_ ?_ ?_
        · exact rfl
        · dsimp only [rmm]; omega
        · dsimp only [rmm]; omega
        refine ⟨?_, ?_⟩ <;> rw [op_item, if_pos c_63, if_pos h_76, if_neg hz]
      have h_76 := bz_f c_76
      refine V_bipush (v := (-4)) X dX9_item_79 (by decide) ?_
      refine V_goto X dX9_item_81 109 (by decide) ?_
      refine V_istore X dX9_item_109 (by decide) rfl ?_
      refine V_iload X dX9_item_111 rfl ?_
      refine V_if_ge X dX9_item_113 123 (by decide) (fun c_113 => ?_) (fun c_113 => ?_)
      · exact absurd c_113 (by decide)
      refine V_aload_n X dX9_item_116 rfl rfl ?_
      refine V_iload X dX9_item_117 rfl ?_
      apply V_callV1 X dX9_item_119 mk_X9_175 iv_X9_refuse (c_refuse9 l (x := -4) (by unfold vp_in; decide))
      · first | assumption | exact hu_s | exact (hu_n (by first | exact kd_nk (by decide) | exact kd_ni (by omega) | exact kd_ng (by omega) | assumption | exact Ne.symm (by assumption))).trans (by first | assumption | exact hu_s | exact (hu_n (by first | exact kd_nk (by decide) | exact kd_ni (by omega) | exact kd_ng (by omega) | assumption | exact Ne.symm (by assumption))).trans (by first | assumption | exact hu_s | exact (hu_n (by first | exact kd_nk (by decide) | exact kd_ni (by omega) | exact kd_ng (by omega) | assumption | exact Ne.symm (by assumption))).trans (by first | assumption | exact hu_s)))
      · exact rfl
      · exact Nat.le_of_ble_eq_true rfl
      · exact ⟨Nat.le_of_ble_eq_true rfl, Nat.le_of_ble_eq_true rfl⟩
      · exact ⟨by dsimp only [rmm]; omega, by dsimp only [rmm]; omega⟩
      rintro r I1 ⟨rfl, rfl⟩
      refine V_iret X dX9_item_122 ?_ ?_ ?_ ?_
      · exact rfl
      · dsimp only [rmm]; omega
      · dsimp only [rmm]; omega
      refine ⟨?_, ?_⟩ <;> rw [op_item, if_pos c_63, if_neg h_76]
    refine V_iload X dX9_item_66 rfl ?_
    refine V_goto X dX9_item_68 109 (by decide) ?_
    refine V_istore X dX9_item_109 (by decide) rfl ?_
    refine V_iload X dX9_item_111 rfl ?_
    refine V_if_ge X dX9_item_113 123 (by decide) (fun c_113 => ?_) (fun c_113 => ?_)
    · exact absurd c_113 c_63
    refine V_aload_n X dX9_item_116 rfl rfl ?_
    refine V_iload X dX9_item_117 rfl ?_
    apply V_callV1 X dX9_item_119 mk_X9_175 iv_X9_refuse (c_refuse9 l (x := lkB S s b) (lkB_in c_63))
    · first | assumption | exact hu_s | exact (hu_n (by first | exact kd_nk (by decide) | exact kd_ni (by omega) | exact kd_ng (by omega) | assumption | exact Ne.symm (by assumption))).trans (by first | assumption | exact hu_s | exact (hu_n (by first | exact kd_nk (by decide) | exact kd_ni (by omega) | exact kd_ng (by omega) | assumption | exact Ne.symm (by assumption))).trans (by first | assumption | exact hu_s | exact (hu_n (by first | exact kd_nk (by decide) | exact kd_ni (by omega) | exact kd_ng (by omega) | assumption | exact Ne.symm (by assumption))).trans (by first | assumption | exact hu_s)))
    · exact rfl
    · exact Nat.le_of_ble_eq_true rfl
    · exact ⟨Nat.le_of_ble_eq_true rfl, Nat.le_of_ble_eq_true rfl⟩
    · exact ⟨by dsimp only [rmm]; omega, by dsimp only [rmm]; omega⟩
    rintro r I1 ⟨rfl, rfl⟩
    refine V_iret X dX9_item_122 ?_ ?_ ?_ ?_
    · exact rfl
    · dsimp only [rmm]; omega
    · dsimp only [rmm]; omega
    refine ⟨?_, ?_⟩ <;> rw [op_item, if_neg c_63]
  have h_18 := bz_t c_18
  refine V_iload X dX9_item_21 rfl ?_
  refine V_i2l X dX9_item_23 ?_
  refine V_lconst (v := 1) X dX9_item_24 (by decide) ?_
  refine V_ldc2 X dX9_item_25 kc_X9_287 ?_
  refine V_callS3 X dX9_item_28 mk_X9_171 st_X9_in (c_inI l (x := sz) (lo := 1) (hi := 8) rfl rfl) (Nat.le_of_ble_eq_true rfl) ⟨Nat.le_of_ble_eq_true rfl, Nat.le_of_ble_eq_true rfl⟩ ?_ ?_
  · exact ⟨by dsimp only [rmm]; omega, by dsimp only [rmm]; omega⟩
  rintro r I1 ⟨rfl, rfl⟩
  refine V_if_eq X dX9_item_31 58 (by decide) (fun c_31 => ?_) (fun c_31 => ?_)
  · have h_31 := bz_f c_31
    have hz : ¬ goodI ev sz m wd := fun q => h_31 q.2.1
    refine V_iconst (v := 0) X dX9_item_58 (by decide) ?_
    refine V_istore X dX9_item_59 (by decide) rfl ?_
    refine V_iload X dX9_item_61 rfl ?_
    refine V_if_ge X dX9_item_63 71 (by decide) (fun c_63 => ?_) (fun c_63 => ?_)
    · refine V_aload_n X dX9_item_71 rfl rfl ?_
      refine V_iload_n X dX9_item_72 rfl ?_
      apply V_callV1 X dX9_item_73 mk_X9_192 iv_X9_isVariable (c_isVar9 l (ct_ent h1 (by decide)))
      · first | assumption | exact hu_s | exact (hu_n (by first | exact kd_nk (by decide) | exact kd_ni (by omega) | exact kd_ng (by omega) | assumption | exact Ne.symm (by assumption))).trans (by first | assumption | exact hu_s | exact (hu_n (by first | exact kd_nk (by decide) | exact kd_ni (by omega) | exact kd_ng (by omega) | assumption | exact Ne.symm (by assumption))).trans (by first | assumption | exact hu_s | exact (hu_n (by first | exact kd_nk (by decide) | exact kd_ni (by omega) | exact kd_ng (by omega) | assumption | exact Ne.symm (by assumption))).trans (by first | assumption | exact hu_s)))
      · exact rfl
      · exact Nat.le_of_ble_eq_true rfl
      · exact ⟨Nat.le_of_ble_eq_true rfl, Nat.le_of_ble_eq_true rfl⟩
      · exact ⟨by dsimp only [rmm]; omega, by dsimp only [rmm]; omega⟩
      rintro r I1 ⟨rfl, rfl⟩
      refine V_if_ne X dX9_item_76 84 (by decide) (fun c_76 => ?_) (fun c_76 => ?_)
      · have h_76 := bz_t c_76
        refine V_iload X dX9_item_84 rfl ?_
        refine V_if_ne X dX9_item_86 94 (by decide) (fun c_86 => ?_) (fun c_86 => ?_)
        · exact absurd c_86 (by decide)
        refine V_bipush (v := (-7)) X dX9_item_89 (by decide) ?_
        refine V_goto X dX9_item_91 109 (by decide) ?_
        refine V_istore X dX9_item_109 (by decide) rfl ?_
        refine V_iload X dX9_item_111 rfl ?_
        refine V_if_ge X dX9_item_113 123 (by decide) (fun c_113 => ?_) (fun c_113 => ?_)
        · exact absurd c_113 (by decide)
        refine V_aload_n X dX9_item_116 rfl rfl ?_
        refine V_iload X dX9_item_117 rfl ?_
        apply V_callV1 X dX9_item_119 mk_X9_175 iv_X9_refuse (c_refuse9 l (x := -7) (by unfold vp_in; decide))
        · first | assumption | exact hu_s | exact (hu_n (by first | exact kd_nk (by decide) | exact kd_ni (by omega) | exact kd_ng (by omega) | assumption | exact Ne.symm (by assumption))).trans (by first | assumption | exact hu_s | exact (hu_n (by first | exact kd_nk (by decide) | exact kd_ni (by omega) | exact kd_ng (by omega) | assumption | exact Ne.symm (by assumption))).trans (by first | assumption | exact hu_s | exact (hu_n (by first | exact kd_nk (by decide) | exact kd_ni (by omega) | exact kd_ng (by omega) | assumption | exact Ne.symm (by assumption))).trans (by first | assumption | exact hu_s)))
        · exact rfl
        · exact Nat.le_of_ble_eq_true rfl
        · exact ⟨Nat.le_of_ble_eq_true rfl, Nat.le_of_ble_eq_true rfl⟩
        · exact ⟨by dsimp only [rmm]; omega, by dsimp only [rmm]; omega⟩
        rintro r I1 ⟨rfl, rfl⟩
        refine V_iret X dX9_item_122 ?_ ?_ ?_ ?_
        · exact rfl
        · dsimp only [rmm]; omega
        · dsimp only [rmm]; omega
        refine ⟨?_, ?_⟩ <;> rw [op_item, if_pos c_63, if_pos h_76, if_neg hz]
      have h_76 := bz_f c_76
      refine V_bipush (v := (-4)) X dX9_item_79 (by decide) ?_
      refine V_goto X dX9_item_81 109 (by decide) ?_
      refine V_istore X dX9_item_109 (by decide) rfl ?_
      refine V_iload X dX9_item_111 rfl ?_
      refine V_if_ge X dX9_item_113 123 (by decide) (fun c_113 => ?_) (fun c_113 => ?_)
      · exact absurd c_113 (by decide)
      refine V_aload_n X dX9_item_116 rfl rfl ?_
      refine V_iload X dX9_item_117 rfl ?_
      apply V_callV1 X dX9_item_119 mk_X9_175 iv_X9_refuse (c_refuse9 l (x := -4) (by unfold vp_in; decide))
      · first | assumption | exact hu_s | exact (hu_n (by first | exact kd_nk (by decide) | exact kd_ni (by omega) | exact kd_ng (by omega) | assumption | exact Ne.symm (by assumption))).trans (by first | assumption | exact hu_s | exact (hu_n (by first | exact kd_nk (by decide) | exact kd_ni (by omega) | exact kd_ng (by omega) | assumption | exact Ne.symm (by assumption))).trans (by first | assumption | exact hu_s | exact (hu_n (by first | exact kd_nk (by decide) | exact kd_ni (by omega) | exact kd_ng (by omega) | assumption | exact Ne.symm (by assumption))).trans (by first | assumption | exact hu_s)))
      · exact rfl
      · exact Nat.le_of_ble_eq_true rfl
      · exact ⟨Nat.le_of_ble_eq_true rfl, Nat.le_of_ble_eq_true rfl⟩
      · exact ⟨by dsimp only [rmm]; omega, by dsimp only [rmm]; omega⟩
      rintro r I1 ⟨rfl, rfl⟩
      refine V_iret X dX9_item_122 ?_ ?_ ?_ ?_
      · exact rfl
      · dsimp only [rmm]; omega
      · dsimp only [rmm]; omega
      refine ⟨?_, ?_⟩ <;> rw [op_item, if_pos c_63, if_neg h_76]
    refine V_iload X dX9_item_66 rfl ?_
    refine V_goto X dX9_item_68 109 (by decide) ?_
    refine V_istore X dX9_item_109 (by decide) rfl ?_
    refine V_iload X dX9_item_111 rfl ?_
    refine V_if_ge X dX9_item_113 123 (by decide) (fun c_113 => ?_) (fun c_113 => ?_)
    · exact absurd c_113 c_63
    refine V_aload_n X dX9_item_116 rfl rfl ?_
    refine V_iload X dX9_item_117 rfl ?_
    apply V_callV1 X dX9_item_119 mk_X9_175 iv_X9_refuse (c_refuse9 l (x := lkB S s b) (lkB_in c_63))
    · first | assumption | exact hu_s | exact (hu_n (by first | exact kd_nk (by decide) | exact kd_ni (by omega) | exact kd_ng (by omega) | assumption | exact Ne.symm (by assumption))).trans (by first | assumption | exact hu_s | exact (hu_n (by first | exact kd_nk (by decide) | exact kd_ni (by omega) | exact kd_ng (by omega) | assumption | exact Ne.symm (by assumption))).trans (by first | assumption | exact hu_s | exact (hu_n (by first | exact kd_nk (by decide) | exact kd_ni (by omega) | exact kd_ng (by omega) | assumption | exact Ne.symm (by assumption))).trans (by first | assumption | exact hu_s)))
    · exact rfl
    · exact Nat.le_of_ble_eq_true rfl
    · exact ⟨Nat.le_of_ble_eq_true rfl, Nat.le_of_ble_eq_true rfl⟩
    · exact ⟨by dsimp only [rmm]; omega, by dsimp only [rmm]; omega⟩
    rintro r I1 ⟨rfl, rfl⟩
    refine V_iret X dX9_item_122 ?_ ?_ ?_ ?_
    · exact rfl
    · dsimp only [rmm]; omega
    · dsimp only [rmm]; omega
    refine ⟨?_, ?_⟩ <;> rw [op_item, if_neg c_63]
  have h_31 := bz_t c_31
  refine V_iload X dX9_item_34 rfl ?_
  refine V_i2l X dX9_item_36 ?_
  refine V_lconst (v := 0) X dX9_item_37 (by decide) ?_
  refine V_ldc2 X dX9_item_38 kc_X9_169 ?_
  refine V_callS3 X dX9_item_41 mk_X9_171 st_X9_in (c_inI l (x := m) (lo := 0) (hi := 2) rfl rfl) (Nat.le_of_ble_eq_true rfl) ⟨Nat.le_of_ble_eq_true rfl, Nat.le_of_ble_eq_true rfl⟩ ?_ ?_
  · exact ⟨by dsimp only [rmm]; omega, by dsimp only [rmm]; omega⟩
  rintro r I1 ⟨rfl, rfl⟩
  refine V_if_eq X dX9_item_44 58 (by decide) (fun c_44 => ?_) (fun c_44 => ?_)
  · have h_44 := bz_f c_44
    have hz : ¬ goodI ev sz m wd := fun q => h_44 q.2.2.1
    refine V_iconst (v := 0) X dX9_item_58 (by decide) ?_
    refine V_istore X dX9_item_59 (by decide) rfl ?_
    refine V_iload X dX9_item_61 rfl ?_
    refine V_if_ge X dX9_item_63 71 (by decide) (fun c_63 => ?_) (fun c_63 => ?_)
    · refine V_aload_n X dX9_item_71 rfl rfl ?_
      refine V_iload_n X dX9_item_72 rfl ?_
      apply V_callV1 X dX9_item_73 mk_X9_192 iv_X9_isVariable (c_isVar9 l (ct_ent h1 (by decide)))
      · first | assumption | exact hu_s | exact (hu_n (by first | exact kd_nk (by decide) | exact kd_ni (by omega) | exact kd_ng (by omega) | assumption | exact Ne.symm (by assumption))).trans (by first | assumption | exact hu_s | exact (hu_n (by first | exact kd_nk (by decide) | exact kd_ni (by omega) | exact kd_ng (by omega) | assumption | exact Ne.symm (by assumption))).trans (by first | assumption | exact hu_s | exact (hu_n (by first | exact kd_nk (by decide) | exact kd_ni (by omega) | exact kd_ng (by omega) | assumption | exact Ne.symm (by assumption))).trans (by first | assumption | exact hu_s)))
      · exact rfl
      · exact Nat.le_of_ble_eq_true rfl
      · exact ⟨Nat.le_of_ble_eq_true rfl, Nat.le_of_ble_eq_true rfl⟩
      · exact ⟨by dsimp only [rmm]; omega, by dsimp only [rmm]; omega⟩
      rintro r I1 ⟨rfl, rfl⟩
      refine V_if_ne X dX9_item_76 84 (by decide) (fun c_76 => ?_) (fun c_76 => ?_)
      · have h_76 := bz_t c_76
        refine V_iload X dX9_item_84 rfl ?_
        refine V_if_ne X dX9_item_86 94 (by decide) (fun c_86 => ?_) (fun c_86 => ?_)
        · exact absurd c_86 (by decide)
        refine V_bipush (v := (-7)) X dX9_item_89 (by decide) ?_
        refine V_goto X dX9_item_91 109 (by decide) ?_
        refine V_istore X dX9_item_109 (by decide) rfl ?_
        refine V_iload X dX9_item_111 rfl ?_
        refine V_if_ge X dX9_item_113 123 (by decide) (fun c_113 => ?_) (fun c_113 => ?_)
        · exact absurd c_113 (by decide)
        refine V_aload_n X dX9_item_116 rfl rfl ?_
        refine V_iload X dX9_item_117 rfl ?_
        apply V_callV1 X dX9_item_119 mk_X9_175 iv_X9_refuse (c_refuse9 l (x := -7) (by unfold vp_in; decide))
        · first | assumption | exact hu_s | exact (hu_n (by first | exact kd_nk (by decide) | exact kd_ni (by omega) | exact kd_ng (by omega) | assumption | exact Ne.symm (by assumption))).trans (by first | assumption | exact hu_s | exact (hu_n (by first | exact kd_nk (by decide) | exact kd_ni (by omega) | exact kd_ng (by omega) | assumption | exact Ne.symm (by assumption))).trans (by first | assumption | exact hu_s | exact (hu_n (by first | exact kd_nk (by decide) | exact kd_ni (by omega) | exact kd_ng (by omega) | assumption | exact Ne.symm (by assumption))).trans (by first | assumption | exact hu_s)))
        · exact rfl
        · exact Nat.le_of_ble_eq_true rfl
        · exact ⟨Nat.le_of_ble_eq_true rfl, Nat.le_of_ble_eq_true rfl⟩
        · exact ⟨by dsimp only [rmm]; omega, by dsimp only [rmm]; omega⟩
        rintro r I1 ⟨rfl, rfl⟩
        refine V_iret X dX9_item_122 ?_ ?_ ?_ ?_
        · exact rfl
        · dsimp only [rmm]; omega
        · dsimp only [rmm]; omega
        refine ⟨?_, ?_⟩ <;> rw [op_item, if_pos c_63, if_pos h_76, if_neg hz]
      have h_76 := bz_f c_76
      refine V_bipush (v := (-4)) X dX9_item_79 (by decide) ?_
      refine V_goto X dX9_item_81 109 (by decide) ?_
      refine V_istore X dX9_item_109 (by decide) rfl ?_
      refine V_iload X dX9_item_111 rfl ?_
      refine V_if_ge X dX9_item_113 123 (by decide) (fun c_113 => ?_) (fun c_113 => ?_)
      · exact absurd c_113 (by decide)
      refine V_aload_n X dX9_item_116 rfl rfl ?_
      refine V_iload X dX9_item_117 rfl ?_
      apply V_callV1 X dX9_item_119 mk_X9_175 iv_X9_refuse (c_refuse9 l (x := -4) (by unfold vp_in; decide))
      · first | assumption | exact hu_s | exact (hu_n (by first | exact kd_nk (by decide) | exact kd_ni (by omega) | exact kd_ng (by omega) | assumption | exact Ne.symm (by assumption))).trans (by first | assumption | exact hu_s | exact (hu_n (by first | exact kd_nk (by decide) | exact kd_ni (by omega) | exact kd_ng (by omega) | assumption | exact Ne.symm (by assumption))).trans (by first | assumption | exact hu_s | exact (hu_n (by first | exact kd_nk (by decide) | exact kd_ni (by omega) | exact kd_ng (by omega) | assumption | exact Ne.symm (by assumption))).trans (by first | assumption | exact hu_s)))
      · exact rfl
      · exact Nat.le_of_ble_eq_true rfl
      · exact ⟨Nat.le_of_ble_eq_true rfl, Nat.le_of_ble_eq_true rfl⟩
      · exact ⟨by dsimp only [rmm]; omega, by dsimp only [rmm]; omega⟩
      rintro r I1 ⟨rfl, rfl⟩
      refine V_iret X dX9_item_122 ?_ ?_ ?_ ?_
      · exact rfl
      · dsimp only [rmm]; omega
      · dsimp only [rmm]; omega
      refine ⟨?_, ?_⟩ <;> rw [op_item, if_pos c_63, if_neg h_76]
    refine V_iload X dX9_item_66 rfl ?_
    refine V_goto X dX9_item_68 109 (by decide) ?_
    refine V_istore X dX9_item_109 (by decide) rfl ?_
    refine V_iload X dX9_item_111 rfl ?_
    refine V_if_ge X dX9_item_113 123 (by decide) (fun c_113 => ?_) (fun c_113 => ?_)
    · exact absurd c_113 c_63
    refine V_aload_n X dX9_item_116 rfl rfl ?_
    refine V_iload X dX9_item_117 rfl ?_
    apply V_callV1 X dX9_item_119 mk_X9_175 iv_X9_refuse (c_refuse9 l (x := lkB S s b) (lkB_in c_63))
    · first | assumption | exact hu_s | exact (hu_n (by first | exact kd_nk (by decide) | exact kd_ni (by omega) | exact kd_ng (by omega) | assumption | exact Ne.symm (by assumption))).trans (by first | assumption | exact hu_s | exact (hu_n (by first | exact kd_nk (by decide) | exact kd_ni (by omega) | exact kd_ng (by omega) | assumption | exact Ne.symm (by assumption))).trans (by first | assumption | exact hu_s | exact (hu_n (by first | exact kd_nk (by decide) | exact kd_ni (by omega) | exact kd_ng (by omega) | assumption | exact Ne.symm (by assumption))).trans (by first | assumption | exact hu_s)))
    · exact rfl
    · exact Nat.le_of_ble_eq_true rfl
    · exact ⟨Nat.le_of_ble_eq_true rfl, Nat.le_of_ble_eq_true rfl⟩
    · exact ⟨by dsimp only [rmm]; omega, by dsimp only [rmm]; omega⟩
    rintro r I1 ⟨rfl, rfl⟩
    refine V_iret X dX9_item_122 ?_ ?_ ?_ ?_
    · exact rfl
    · dsimp only [rmm]; omega
    · dsimp only [rmm]; omega
    refine ⟨?_, ?_⟩ <;> rw [op_item, if_neg c_63]
  have h_44 := bz_t c_44
  refine V_lload X dX9_item_47 rfl ?_
  refine V_lconst (v := 0) X dX9_item_49 (by decide) ?_
  refine V_lcmp X dX9_item_50 ?_
  refine V_if_lt X dX9_item_51 58 (by decide) (fun c_51 => ?_) (fun c_51 => ?_)
  · rw [lg_cmp_lt] at c_51
    have hz : ¬ goodI ev sz m wd := fun q => q.2.2.2 c_51
    refine V_iconst (v := 0) X dX9_item_58 (by decide) ?_
    refine V_istore X dX9_item_59 (by decide) rfl ?_
    refine V_iload X dX9_item_61 rfl ?_
    refine V_if_ge X dX9_item_63 71 (by decide) (fun c_63 => ?_) (fun c_63 => ?_)
    · refine V_aload_n X dX9_item_71 rfl rfl ?_
      refine V_iload_n X dX9_item_72 rfl ?_
      apply V_callV1 X dX9_item_73 mk_X9_192 iv_X9_isVariable (c_isVar9 l (ct_ent h1 (by decide)))
      · first | assumption | exact hu_s | exact (hu_n (by first | exact kd_nk (by decide) | exact kd_ni (by omega) | exact kd_ng (by omega) | assumption | exact Ne.symm (by assumption))).trans (by first | assumption | exact hu_s | exact (hu_n (by first | exact kd_nk (by decide) | exact kd_ni (by omega) | exact kd_ng (by omega) | assumption | exact Ne.symm (by assumption))).trans (by first | assumption | exact hu_s | exact (hu_n (by first | exact kd_nk (by decide) | exact kd_ni (by omega) | exact kd_ng (by omega) | assumption | exact Ne.symm (by assumption))).trans (by first | assumption | exact hu_s)))
      · exact rfl
      · exact Nat.le_of_ble_eq_true rfl
      · exact ⟨Nat.le_of_ble_eq_true rfl, Nat.le_of_ble_eq_true rfl⟩
      · exact ⟨by dsimp only [rmm]; omega, by dsimp only [rmm]; omega⟩
      rintro r I1 ⟨rfl, rfl⟩
      refine V_if_ne X dX9_item_76 84 (by decide) (fun c_76 => ?_) (fun c_76 => ?_)
      · have h_76 := bz_t c_76
        refine V_iload X dX9_item_84 rfl ?_
        refine V_if_ne X dX9_item_86 94 (by decide) (fun c_86 => ?_) (fun c_86 => ?_)
        · exact absurd c_86 (by decide)
        refine V_bipush (v := (-7)) X dX9_item_89 (by decide) ?_
        refine V_goto X dX9_item_91 109 (by decide) ?_
        refine V_istore X dX9_item_109 (by decide) rfl ?_
        refine V_iload X dX9_item_111 rfl ?_
        refine V_if_ge X dX9_item_113 123 (by decide) (fun c_113 => ?_) (fun c_113 => ?_)
        · exact absurd c_113 (by decide)
        refine V_aload_n X dX9_item_116 rfl rfl ?_
        refine V_iload X dX9_item_117 rfl ?_
        apply V_callV1 X dX9_item_119 mk_X9_175 iv_X9_refuse (c_refuse9 l (x := -7) (by unfold vp_in; decide))
        · first | assumption | exact hu_s | exact (hu_n (by first | exact kd_nk (by decide) | exact kd_ni (by omega) | exact kd_ng (by omega) | assumption | exact Ne.symm (by assumption))).trans (by first | assumption | exact hu_s | exact (hu_n (by first | exact kd_nk (by decide) | exact kd_ni (by omega) | exact kd_ng (by omega) | assumption | exact Ne.symm (by assumption))).trans (by first | assumption | exact hu_s | exact (hu_n (by first | exact kd_nk (by decide) | exact kd_ni (by omega) | exact kd_ng (by omega) | assumption | exact Ne.symm (by assumption))).trans (by first | assumption | exact hu_s)))
        · exact rfl
        · exact Nat.le_of_ble_eq_true rfl
        · exact ⟨Nat.le_of_ble_eq_true rfl, Nat.le_of_ble_eq_true rfl⟩
        · exact ⟨by dsimp only [rmm]; omega, by dsimp only [rmm]; omega⟩
        rintro r I1 ⟨rfl, rfl⟩
        refine V_iret X dX9_item_122 ?_ ?_ ?_ ?_
        · exact rfl
        · dsimp only [rmm]; omega
        · dsimp only [rmm]; omega
        refine ⟨?_, ?_⟩ <;> rw [op_item, if_pos c_63, if_pos h_76, if_neg hz]
      have h_76 := bz_f c_76
      refine V_bipush (v := (-4)) X dX9_item_79 (by decide) ?_
      refine V_goto X dX9_item_81 109 (by decide) ?_
      refine V_istore X dX9_item_109 (by decide) rfl ?_
      refine V_iload X dX9_item_111 rfl ?_
      refine V_if_ge X dX9_item_113 123 (by decide) (fun c_113 => ?_) (fun c_113 => ?_)
      · exact absurd c_113 (by decide)
      refine V_aload_n X dX9_item_116 rfl rfl ?_
      refine V_iload X dX9_item_117 rfl ?_
      apply V_callV1 X dX9_item_119 mk_X9_175 iv_X9_refuse (c_refuse9 l (x := -4) (by unfold vp_in; decide))
      · first | assumption | exact hu_s | exact (hu_n (by first | exact kd_nk (by decide) | exact kd_ni (by omega) | exact kd_ng (by omega) | assumption | exact Ne.symm (by assumption))).trans (by first | assumption | exact hu_s | exact (hu_n (by first | exact kd_nk (by decide) | exact kd_ni (by omega) | exact kd_ng (by omega) | assumption | exact Ne.symm (by assumption))).trans (by first | assumption | exact hu_s | exact (hu_n (by first | exact kd_nk (by decide) | exact kd_ni (by omega) | exact kd_ng (by omega) | assumption | exact Ne.symm (by assumption))).trans (by first | assumption | exact hu_s)))
      · exact rfl
      · exact Nat.le_of_ble_eq_true rfl
      · exact ⟨Nat.le_of_ble_eq_true rfl, Nat.le_of_ble_eq_true rfl⟩
      · exact ⟨by dsimp only [rmm]; omega, by dsimp only [rmm]; omega⟩
      rintro r I1 ⟨rfl, rfl⟩
      refine V_iret X dX9_item_122 ?_ ?_ ?_ ?_
      · exact rfl
      · dsimp only [rmm]; omega
      · dsimp only [rmm]; omega
      refine ⟨?_, ?_⟩ <;> rw [op_item, if_pos c_63, if_neg h_76]
    refine V_iload X dX9_item_66 rfl ?_
    refine V_goto X dX9_item_68 109 (by decide) ?_
    refine V_istore X dX9_item_109 (by decide) rfl ?_
    refine V_iload X dX9_item_111 rfl ?_
    refine V_if_ge X dX9_item_113 123 (by decide) (fun c_113 => ?_) (fun c_113 => ?_)
    · exact absurd c_113 c_63
    refine V_aload_n X dX9_item_116 rfl rfl ?_
    refine V_iload X dX9_item_117 rfl ?_
    apply V_callV1 X dX9_item_119 mk_X9_175 iv_X9_refuse (c_refuse9 l (x := lkB S s b) (lkB_in c_63))
    · first | assumption | exact hu_s | exact (hu_n (by first | exact kd_nk (by decide) | exact kd_ni (by omega) | exact kd_ng (by omega) | assumption | exact Ne.symm (by assumption))).trans (by first | assumption | exact hu_s | exact (hu_n (by first | exact kd_nk (by decide) | exact kd_ni (by omega) | exact kd_ng (by omega) | assumption | exact Ne.symm (by assumption))).trans (by first | assumption | exact hu_s | exact (hu_n (by first | exact kd_nk (by decide) | exact kd_ni (by omega) | exact kd_ng (by omega) | assumption | exact Ne.symm (by assumption))).trans (by first | assumption | exact hu_s)))
    · exact rfl
    · exact Nat.le_of_ble_eq_true rfl
    · exact ⟨Nat.le_of_ble_eq_true rfl, Nat.le_of_ble_eq_true rfl⟩
    · exact ⟨by dsimp only [rmm]; omega, by dsimp only [rmm]; omega⟩
    rintro r I1 ⟨rfl, rfl⟩
    refine V_iret X dX9_item_122 ?_ ?_ ?_ ?_
    · exact rfl
    · dsimp only [rmm]; omega
    · dsimp only [rmm]; omega
    refine ⟨?_, ?_⟩ <;> rw [op_item, if_neg c_63]
  rw [lg_cmp_lt] at c_51
  have hz : goodI ev sz m wd := ⟨h_18, h_31, h_44, c_51⟩
  refine V_iconst (v := 1) X dX9_item_54 (by decide) ?_
  refine V_goto X dX9_item_55 59 (by decide) ?_
  refine V_istore X dX9_item_59 (by decide) rfl ?_
  refine V_iload X dX9_item_61 rfl ?_
  refine V_if_ge X dX9_item_63 71 (by decide) (fun c_63 => ?_) (fun c_63 => ?_)
  · refine V_aload_n X dX9_item_71 rfl rfl ?_
    refine V_iload_n X dX9_item_72 rfl ?_
    apply V_callV1 X dX9_item_73 mk_X9_192 iv_X9_isVariable (c_isVar9 l (ct_ent h1 (by decide)))
    · first | assumption | exact hu_s | exact (hu_n (by first | exact kd_nk (by decide) | exact kd_ni (by omega) | exact kd_ng (by omega) | assumption | exact Ne.symm (by assumption))).trans (by first | assumption | exact hu_s | exact (hu_n (by first | exact kd_nk (by decide) | exact kd_ni (by omega) | exact kd_ng (by omega) | assumption | exact Ne.symm (by assumption))).trans (by first | assumption | exact hu_s | exact (hu_n (by first | exact kd_nk (by decide) | exact kd_ni (by omega) | exact kd_ng (by omega) | assumption | exact Ne.symm (by assumption))).trans (by first | assumption | exact hu_s)))
    · exact rfl
    · exact Nat.le_of_ble_eq_true rfl
    · exact ⟨Nat.le_of_ble_eq_true rfl, Nat.le_of_ble_eq_true rfl⟩
    · exact ⟨by dsimp only [rmm]; omega, by dsimp only [rmm]; omega⟩
    rintro r I1 ⟨rfl, rfl⟩
    refine V_if_ne X dX9_item_76 84 (by decide) (fun c_76 => ?_) (fun c_76 => ?_)
    · have h_76 := bz_t c_76
      refine V_iload X dX9_item_84 rfl ?_
      refine V_if_ne X dX9_item_86 94 (by decide) (fun c_86 => ?_) (fun c_86 => ?_)
      · refine V_aload_n X dX9_item_94 rfl rfl ?_
        refine M_geti X dX9_item_95 fk_X9_202 (by decide) rfl ?_
        refine V_bipush (v := 60) X dX9_item_98 (by decide) ?_
        refine V_icmp_ne X dX9_item_100 108 (by decide) (fun c_100 => ?_) (fun c_100 => ?_)
        · refine V_iconst (v := 0) X dX9_item_108 (by decide) ?_
          refine V_istore X dX9_item_109 (by decide) rfl ?_
          refine V_iload X dX9_item_111 rfl ?_
          refine V_if_ge X dX9_item_113 123 (by decide) (fun c_113 => ?_) (fun c_113 => ?_)
          · obtain ⟨bb, hbb, eb⟩ := lt_of_in (sub_in hE.1.2.1 (lkB_ok c_63).2.1.1) (by decide)
            obtain ⟨nd, hnd, en⟩ := lt_of_in (nod_in (ct_ent h1 (by decide)) h_76.1) (by decide)
            obtain ⟨N, hN60, e32⟩ := id hE.1.2.2.1
            have hN : N < 60 := by
              rcases Nat.lt_or_ge N 60 with q | q
              · exact q
              · exact absurd (by rw [e32, show N = 60 by omega]; rfl) c_100
            subst eb
            subst en
            refine V_aload_n X dX9_item_123 rfl rfl ?_
            refine M_getiE (nI N) X dX9_item_124 fk_X9_202 (by decide) rfl (e32) ?_
            refine V_istore X dX9_item_127 (by decide) rfl ?_
            refine V_aload_n X dX9_item_129 rfl rfl ?_
            refine V_dup X dX9_item_130 rfl ?_
            refine M_getiE (nI N) X dX9_item_131 fk_X9_202 (by decide) rfl (e32) ?_
            refine V_iconst (v := 1) X dX9_item_134 (by decide) ?_
            refine V_iadd X dX9_item_135 ?_
            rw [nI_1]
            refine M_put X dX9_item_136 fk_X9_202 (by decide) rfl ?_
            refine V_aload_n X dX9_item_139 rfl rfl ?_
            refine M_geta X dX9_item_140 fk_X9_90 (by decide) rfl ?_
            refine V_iload X dX9_item_143 rfl ?_
            refine V_iconst (v := 1) X dX9_item_145 (by decide) ?_
            refine M_zastN X dX9_item_146 (by decide) rfl (by omega) (by decide) (rfl) ?_
            refine V_aload_n X dX9_item_147 rfl rfl ?_
            refine M_geta X dX9_item_148 fk_X9_93 (by decide) rfl ?_
            refine V_iload X dX9_item_151 rfl ?_
            refine V_iload_n X dX9_item_153 rfl ?_
            refine M_iastN X dX9_item_154 (by decide) rfl (by omega) (by decide) ?_
            refine V_aload_n X dX9_item_155 rfl rfl ?_
            refine M_geta X dX9_item_156 fk_X9_96 (by decide) rfl ?_
            refine V_iload X dX9_item_159 rfl ?_
            refine V_iload_n X dX9_item_161 rfl ?_
            refine M_iastN X dX9_item_162 (by decide) rfl (by omega) (by decide) ?_
            refine V_aload_n X dX9_item_163 rfl rfl ?_
            refine M_geta X dX9_item_164 fk_X9_99 (by decide) rfl ?_
            refine V_iload X dX9_item_167 rfl ?_
            refine V_aload_n X dX9_item_169 rfl rfl ?_
            refine M_geti X dX9_item_170 fk_X9_199 (by decide) rfl ?_
            refine M_iastN X dX9_item_173 (by decide) rfl (by omega) (by decide) ?_
            refine V_aload_n X dX9_item_174 rfl rfl ?_
            refine M_geta X dX9_item_175 fk_X9_102 (by decide) rfl ?_
            refine V_iload X dX9_item_178 rfl ?_
            refine V_iload X dX9_item_180 rfl ?_
            refine M_iastN X dX9_item_182 (by decide) rfl (by omega) (by decide) ?_
            refine V_aload_n X dX9_item_183 rfl rfl ?_
            refine M_geta X dX9_item_184 fk_X9_105 (by decide) rfl ?_
            refine V_iload X dX9_item_187 rfl ?_
            refine V_iload X dX9_item_189 rfl ?_
            refine M_iastN X dX9_item_191 (by decide) rfl (by omega) (by decide) ?_
            refine V_aload_n X dX9_item_192 rfl rfl ?_
            refine M_geta X dX9_item_193 fk_X9_108 (by decide) rfl ?_
            refine V_iload X dX9_item_196 rfl ?_
            refine V_iload X dX9_item_198 rfl ?_
            refine M_zastN X dX9_item_200 (by decide) rfl (by omega) (by decide) (hod) ?_
            refine V_aload_n X dX9_item_201 rfl rfl ?_
            refine M_geta X dX9_item_202 fk_X9_111 (by decide) rfl ?_
            refine V_iload X dX9_item_205 rfl ?_
            refine V_iload X dX9_item_207 rfl ?_
            refine M_iastN X dX9_item_209 (by decide) rfl (by omega) (by decide) ?_
            refine V_aload_n X dX9_item_210 rfl rfl ?_
            refine M_geta X dX9_item_211 fk_X9_114 (by decide) rfl ?_
            refine V_iload X dX9_item_214 rfl ?_
            refine V_lload X dX9_item_216 rfl ?_
            refine M_lastN X dX9_item_218 (by decide) rfl (by omega) (by decide) ?_
            refine V_aload_n X dX9_item_219 rfl rfl ?_
            refine M_geta X dX9_item_220 fk_X9_75 (by decide) rfl ?_
            refine V_iload_n X dX9_item_223 rfl ?_
            refine V_aload_n X dX9_item_224 rfl rfl ?_
            refine M_geta X dX9_item_225 fk_X9_60 (by decide) rfl ?_
            refine V_iload_n X dX9_item_228 rfl ?_
            refine M_ialdN X dX9_item_229 (by decide) rfl (by omega) (by decide) ?_
            refine M_iastN X dX9_item_230 (by decide) rfl (by omega) (by decide) ?_
            have eo : op_item S s (nI bb) (nI nd) ev sz od m wd = ((if m ≤ 0 then itS (entS S s) N (nI bb) (nI nd) ev sz od m wd else sampleS (itS (entS S s) N (nI bb) (nI nd) ev sz od m wd) N), nI N) := by
              rw [op_item, if_pos c_63, if_pos h_76, if_pos hz, if_neg c_100, e32, nnI (by omega)]
            rw [show pa (pb (pa (pa (pa (pa (pa (pa (pa (pa (pa (entS S s) 32 0 (nI (N + 1))) 33 N 1) 34 N (nI bb)) 35 N (nI nd)) 36 N ((pa (pa (pa (pa (entS S s) 32 0 (nI (N + 1))) 33 N 1) 34 N (nI bb)) 35 N (nI nd)).1 0 0)) 37 N ev) 38 N sz) 39 N od) 40 N m) 41 N wd) 26 bb ((pb (pa (pa (pa (pa (pa (pa (pa (pa (pa (entS S s) 32 0 (nI (N + 1))) 33 N 1) 34 N (nI bb)) 35 N (nI nd)) 36 N ((pa (pa (pa (pa (entS S s) 32 0 (nI (N + 1))) 33 N 1) 34 N (nI bb)) 35 N (nI nd)).1 0 0)) 37 N ev) 38 N sz) 39 N od) 40 N m) 41 N wd).1 21 bb) = itS (entS S s) N (nI bb) (nI nd) ev sz od m wd from by unfold itS; rw [nnI (show bb < 2 ^ 31 by omega)]]
            have e44 : (itS (entS S s) N (nI bb) (nI nd) ev sz od m wd).1 44 N = 0 := by
              unfold itS
              simp [pa_1, pb_1]
              rw [ent_c (by decide)]
              have e32s : S.1 32 0 = nI N := by rw [← e32, ent_c (by decide)]
              rw [e32s, nnI (by omega)] at h44
              exact h44
            have e38 : (itS (entS S s) N (nI bb) (nI nd) ev sz od m wd).1 38 N = sz := by unfold itS; simp [pa_1, pb_1]
            have e35 : (itS (entS S s) N (nI bb) (nI nd) ev sz od m wd).1 35 N = nI nd := by unfold itS; simp [pa_1, pb_1]
            have e34 : (itS (entS S s) N (nI bb) (nI nd) ev sz od m wd).1 34 N = nI bb := by unfold itS; simp [pa_1, pb_1]
            obtain ⟨z, hz1, hz8, ez⟩ := rng_of (a := 1) (b := 8) rfl rfl (by decide) (by decide) hz.2.1
            have hzN : 1 ≤ nn ((itS (entS S s) N (nI bb) (nI nd) ev sz od m wd).1 38 N) := by rw [e38, ez, nnI (by omega)]; exact hz1
            have hQN : IvQ (itS (entS S s) N (nI bb) (nI nd) ev sz od m wd) N := by
              unfold IvQ
              rw [e44, e38, e35, e34]
              exact ⟨sm_of (j := 0) rfl (by omega) (by decide), sm_of ez hz8 (by decide), Nat.zero_le _, sm_of rfl (by omega) (by decide), sm_of rfl (by omega) (by decide)⟩
            refine V_iload X dX9_item_231 rfl ?_
            refine V_if_le X dX9_item_233 242 (by decide) (fun c_233 => ?_) (fun c_233 => ?_)
            · refine V_iload X dX9_item_242 rfl ?_
              refine V_iret X dX9_item_244 ?_ ?_ ?_ ?_
              · exact rfl
              · dsimp only [rmm]; omega
              · dsimp only [rmm]; omega
              rw [eo, if_pos c_233]
              exact ⟨rfl, rfl⟩
            refine V_aload_n X dX9_item_236 rfl rfl ?_
            refine V_iload X dX9_item_237 rfl ?_
            apply V_callV1 X dX9_item_239 mk_X9_242 iv_X9_sample (c_sample l hN hQN hzN)
            · first | assumption | exact hu_s | exact (hu_n (by first | exact kd_nk (by decide) | exact kd_ni (by omega) | exact kd_ng (by omega) | assumption | exact Ne.symm (by assumption))).trans (by first | assumption | exact hu_s | exact (hu_n (by first | exact kd_nk (by decide) | exact kd_ni (by omega) | exact kd_ng (by omega) | assumption | exact Ne.symm (by assumption))).trans (by first | assumption | exact hu_s | exact (hu_n (by first | exact kd_nk (by decide) | exact kd_ni (by omega) | exact kd_ng (by omega) | assumption | exact Ne.symm (by assumption))).trans (by first | assumption | exact hu_s)))
            · exact rfl
            · exact Nat.le_of_ble_eq_true rfl
            · exact ⟨Nat.le_of_ble_eq_true rfl, Nat.le_of_ble_eq_true rfl⟩
            · exact ⟨by dsimp only [rmm]; omega, by dsimp only [rmm]; omega⟩
            rintro r I1 ⟨rfl, rfl⟩
            refine V_iload X dX9_item_242 rfl ?_
            refine V_iret X dX9_item_244 ?_ ?_ ?_ ?_
            · exact rfl
            · dsimp only [rmm]; omega
            · dsimp only [rmm]; omega
            rw [eo, if_neg c_233]
            exact ⟨rfl, rfl⟩
          · exact absurd c_113 (by decide)
        refine V_bipush (v := (-8)) X dX9_item_103 (by decide) ?_
        refine V_goto X dX9_item_105 109 (by decide) ?_
        refine V_istore X dX9_item_109 (by decide) rfl ?_
        refine V_iload X dX9_item_111 rfl ?_
        refine V_if_ge X dX9_item_113 123 (by decide) (fun c_113 => ?_) (fun c_113 => ?_)
        · exact absurd c_113 (by decide)
        refine V_aload_n X dX9_item_116 rfl rfl ?_
        refine V_iload X dX9_item_117 rfl ?_
        apply V_callV1 X dX9_item_119 mk_X9_175 iv_X9_refuse (c_refuse9 l (x := -8) (by unfold vp_in; decide))
        · first | assumption | exact hu_s | exact (hu_n (by first | exact kd_nk (by decide) | exact kd_ni (by omega) | exact kd_ng (by omega) | assumption | exact Ne.symm (by assumption))).trans (by first | assumption | exact hu_s | exact (hu_n (by first | exact kd_nk (by decide) | exact kd_ni (by omega) | exact kd_ng (by omega) | assumption | exact Ne.symm (by assumption))).trans (by first | assumption | exact hu_s | exact (hu_n (by first | exact kd_nk (by decide) | exact kd_ni (by omega) | exact kd_ng (by omega) | assumption | exact Ne.symm (by assumption))).trans (by first | assumption | exact hu_s)))
        · exact rfl
        · exact Nat.le_of_ble_eq_true rfl
        · exact ⟨Nat.le_of_ble_eq_true rfl, Nat.le_of_ble_eq_true rfl⟩
        · exact ⟨by dsimp only [rmm]; omega, by dsimp only [rmm]; omega⟩
        rintro r I1 ⟨rfl, rfl⟩
        refine V_iret X dX9_item_122 ?_ ?_ ?_ ?_
        · exact rfl
        · dsimp only [rmm]; omega
        · dsimp only [rmm]; omega
        refine ⟨?_, ?_⟩ <;> rw [op_item, if_pos c_63, if_pos h_76, if_pos hz, if_pos c_100]
      · exact absurd c_86 (by decide)
    have h_76 := bz_f c_76
    refine V_bipush (v := (-4)) X dX9_item_79 (by decide) ?_
    refine V_goto X dX9_item_81 109 (by decide) ?_
    refine V_istore X dX9_item_109 (by decide) rfl ?_
    refine V_iload X dX9_item_111 rfl ?_
    refine V_if_ge X dX9_item_113 123 (by decide) (fun c_113 => ?_) (fun c_113 => ?_)
    · exact absurd c_113 (by decide)
    refine V_aload_n X dX9_item_116 rfl rfl ?_
    refine V_iload X dX9_item_117 rfl ?_
    apply V_callV1 X dX9_item_119 mk_X9_175 iv_X9_refuse (c_refuse9 l (x := -4) (by unfold vp_in; decide))
    · first | assumption | exact hu_s | exact (hu_n (by first | exact kd_nk (by decide) | exact kd_ni (by omega) | exact kd_ng (by omega) | assumption | exact Ne.symm (by assumption))).trans (by first | assumption | exact hu_s | exact (hu_n (by first | exact kd_nk (by decide) | exact kd_ni (by omega) | exact kd_ng (by omega) | assumption | exact Ne.symm (by assumption))).trans (by first | assumption | exact hu_s | exact (hu_n (by first | exact kd_nk (by decide) | exact kd_ni (by omega) | exact kd_ng (by omega) | assumption | exact Ne.symm (by assumption))).trans (by first | assumption | exact hu_s)))
    · exact rfl
    · exact Nat.le_of_ble_eq_true rfl
    · exact ⟨Nat.le_of_ble_eq_true rfl, Nat.le_of_ble_eq_true rfl⟩
    · exact ⟨by dsimp only [rmm]; omega, by dsimp only [rmm]; omega⟩
    rintro r I1 ⟨rfl, rfl⟩
    refine V_iret X dX9_item_122 ?_ ?_ ?_ ?_
    · exact rfl
    · dsimp only [rmm]; omega
    · dsimp only [rmm]; omega
    refine ⟨?_, ?_⟩ <;> rw [op_item, if_pos c_63, if_neg h_76]
  refine V_iload X dX9_item_66 rfl ?_
  refine V_goto X dX9_item_68 109 (by decide) ?_
  refine V_istore X dX9_item_109 (by decide) rfl ?_
  refine V_iload X dX9_item_111 rfl ?_
  refine V_if_ge X dX9_item_113 123 (by decide) (fun c_113 => ?_) (fun c_113 => ?_)
  · exact absurd c_113 c_63
  refine V_aload_n X dX9_item_116 rfl rfl ?_
  refine V_iload X dX9_item_117 rfl ?_
  apply V_callV1 X dX9_item_119 mk_X9_175 iv_X9_refuse (c_refuse9 l (x := lkB S s b) (lkB_in c_63))
  · first | assumption | exact hu_s | exact (hu_n (by first | exact kd_nk (by decide) | exact kd_ni (by omega) | exact kd_ng (by omega) | assumption | exact Ne.symm (by assumption))).trans (by first | assumption | exact hu_s | exact (hu_n (by first | exact kd_nk (by decide) | exact kd_ni (by omega) | exact kd_ng (by omega) | assumption | exact Ne.symm (by assumption))).trans (by first | assumption | exact hu_s | exact (hu_n (by first | exact kd_nk (by decide) | exact kd_ni (by omega) | exact kd_ng (by omega) | assumption | exact Ne.symm (by assumption))).trans (by first | assumption | exact hu_s)))
  · exact rfl
  · exact Nat.le_of_ble_eq_true rfl
  · exact ⟨Nat.le_of_ble_eq_true rfl, Nat.le_of_ble_eq_true rfl⟩
  · exact ⟨by dsimp only [rmm]; omega, by dsimp only [rmm]; omega⟩
  rintro r I1 ⟨rfl, rfl⟩
  refine V_iret X dX9_item_122 ?_ ?_ ?_ ?_
  · exact rfl
  · dsimp only [rmm]; omega
  · dsimp only [rmm]; omega
  refine ⟨?_, ?_⟩ <;> rw [op_item, if_neg c_63]
