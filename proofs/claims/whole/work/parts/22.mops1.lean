/-! what each call does to the state, and answers: 1 -/
abbrev nn (x : Int32) : Nat := x.toNatClampNeg
abbrev isN (S : St) (n : Int32) : Prop := ¬ n < 0 ∧ n < S.1 1 0
abbrev isVr (S : St) (n : Int32) : Prop := isN S n ∧ 0 < S.1 2 (nn n)
abbrev isSes (S : St) (s : Int32) : Prop := ¬ s < 0 ∧ s < S.1 8 0
abbrev rr (S : St) (x : Int32) : St × Int32 := (rfw S x, x)
def op_node (S : St) (x : Int32) : St × Int32 := if 0 ≤ x ∧ x ≤ 2 then (if S.1 1 0 = 40 then rr S (-8) else (let S1 := pa S 2 (nn (S.1 1 0)) x; let S2 := pa S1 1 0 (S1.1 1 0 + 1); (S2, S2.1 1 0 - 1))) else rr S (-7)
def op_refer (S : St) (a b t : Int32) : St × Int32 := if isN S a then (if isN S b then (if 0 ≤ t ∧ t ≤ 7 then (if S.1 4 0 = 100 then rr S (-8) else (let S1 := pa S 5 (nn (S.1 4 0)) a; let S2 := pa S1 6 (nn (S1.1 4 0)) b; let S3 := pa S2 7 (nn (S2.1 4 0)) t; let S4 := pa S3 4 0 (S3.1 4 0 + 1); (S4, S4.1 4 0 - 1))) else rr S (-7)) else rr S (-4)) else rr S (-4)
def op_change (S : St) (n : Int32) (v : Int64) : St × Int32 := if isVr S n then (pb S 3 (nn n) v, 1) else rr S (-4)
def lackS (S : St) (s : Int32) : Int32 := if isSes S s then (if S.1 11 (nn s) = 1 then 0 else if S.1 11 (nn s) = 2 then -2 else -3) else -1
def entS (S : St) (s : Int32) : St := if lackS S s = 0 then pa S 10 (nn s) (S.1 0 0 + S.1 9 (nn s)) else S
def op_session (S : St) (t : Int32) : St × Int32 := if 1 ≤ t ∧ t ≤ 1000 then (if S.1 8 0 = 12 then rr S (-8) else (let S1 := pa S 9 (nn (S.1 8 0)) t; let S2 := pa S1 10 (nn (S1.1 8 0)) (S1.1 0 0 + t); let S3 := pa S2 11 (nn (S2.1 8 0)) 0; let S4 := pa S3 8 0 (S3.1 8 0 + 1); (S4, S4.1 8 0 - 1))) else rr S (-7)
def op_activate (S : St) (s : Int32) : St × Int32 := if isSes S s then (if S.1 11 (nn s) = 2 then rr S (-2) else (let S1 := pa S 11 (nn s) 1; (pa S1 10 (nn s) (S1.1 0 0 + S1.1 9 (nn s)), 1))) else rr S (-1)
def op_read (S : St) (s n : Int32) : St × Int32 := let S1 := entS S s; if 0 ≤ lackS S s then (if isVr S1 n then (pb S1 59 0 (S1.2 3 (nn n)), 0) else rr S1 (-4)) else rr S1 (lackS S s)
def op_write (S : St) (s n : Int32) (v : Int64) : St × Int32 := let S1 := entS S s; if 0 ≤ lackS S s then (if isN S1 n then (if S1.1 2 (nn n) = 2 then (pb S1 3 (nn n) v, 1) else rr S1 (-4)) else rr S1 (-4)) else rr S1 (lackS S s)
theorem lackS_or (S : St) (s : Int32) : lackS S s = 0 ∨ lackS S s = -1 ∨ lackS S s = -2 ∨ lackS S s = -3 := by
  unfold lackS
  split
  · split
    · exact Or.inl rfl
    · split
      · exact Or.inr (Or.inr (Or.inl rfl))
      · exact Or.inr (Or.inr (Or.inr rfl))
  · exact Or.inr (Or.inl rfl)
theorem lackS_in {S : St} {s : Int32} (h : ¬ 0 ≤ lackS S s) : vp_in (-lackS S s) 10 := by
  rcases lackS_or S s with e | e | e | e <;> rw [e] <;> first | (rw [e] at h; exact absurd h (by decide)) | (unfold vp_in; decide)
theorem lackS_nn {S : St} {s : Int32} (h : 0 ≤ lackS S s) : lackS S s = 0 := by
  rcases lackS_or S s with e | e | e | e
  · exact e
  all_goals (rw [e] at h; exact absurd h (by decide))
theorem ent_c {S : St} {s : Int32} {k : Nat} (h : k ≠ 10) (i : Nat) : (entS S s).1 k i = S.1 k i := by
  unfold entS
  split
  · exact pa_n S _ h
  · rfl
theorem ent_2 {S : St} {s : Int32} : (entS S s).2 = S.2 := by
  unfold entS
  split <;> rfl
theorem ct_ent {S : St} {s : Int32} {k b : Nat} (h : ct S k b) (hk : k ≠ 10) : ct (entS S s) k b := by
  obtain ⟨N, h1, h2⟩ := h
  exact ⟨N, h1, (ent_c hk 0).trans h2⟩
theorem ct_ne {S : St} {k b : Nat} (h : ct S k b) (hb : b < 2 ^ 31) (x : Int32) (hx : x = nI b) (hn : ¬ S.1 k 0 = x) : vp_in (S.1 k 0) b := by
  obtain ⟨N, h1, h2⟩ := h
  rw [h2]
  refine vp_in_nI2 ?_ (by omega)
  rcases Nat.lt_or_ge N b with q | q
  · exact q
  · exact absurd (by rw [h2, hx, show N = b by omega]) hn
theorem ses_in {S : St} {s : Int32} (h8 : ct S 8 12) (h : isSes S s) : vp_in s 12 := by
  obtain ⟨N, h1, h2⟩ := h8
  exact in_lt h.1 (h2 ▸ h.2) h1 (by decide)
theorem nod_in {S : St} {s : Int32} (h8 : ct S 1 40) (h : isN S s) : vp_in s 40 := by
  obtain ⟨N, h1, h2⟩ := h8
  exact in_lt h.1 (h2 ▸ h.2) h1 (by decide)
set_option maxRecDepth 100000 in
set_option maxHeartbeats 4000000 in
theorem m_node (l : Launch) {S : St} {J : aH} {x : Int32} (h1 : ct S 1 40) : AM l yX9_node cX9_node 2 (some .int) (rmm 1 0 0 30) [.ref mO, .int x] (ovl S J) (fun r I' => r = some (.int (op_node S x).2) ∧ I' = ovl (op_node S x).1 J) := by
  refine AM_of RX9 (by decide) rfl [some (.ref mO), some (.int x)] rfl (Nat.le_of_ble_eq_true rfl) (fun Z X hNm => ?_)
  refine V_iload_n X dX9_node_0 rfl ?_
  refine V_i2l X dX9_node_1 ?_
  refine V_lconst (v := 0) X dX9_node_2 (by decide) ?_
  refine V_ldc2 X dX9_node_3 kc_X9_169 ?_
  refine V_callS3 X dX9_node_6 mk_X9_171 st_X9_in (c_inI l (x := x) (lo := 0) (hi := 2) rfl rfl) (Nat.le_of_ble_eq_true rfl) ⟨Nat.le_of_ble_eq_true rfl, Nat.le_of_ble_eq_true rfl⟩ ?_ ?_
  · exact ⟨by dsimp only [rmm]; omega, by dsimp only [rmm]; omega⟩
  rintro r I1 ⟨rfl, rfl⟩
  refine V_if_ne X dX9_node_9 19 (by decide) (fun c_9 => ?_) (fun c_9 => ?_)
  · have h_9 := bz_t c_9
    refine V_aload_n X dX9_node_19 rfl rfl ?_
    refine M_geti X dX9_node_20 fk_X9_179 (by decide) rfl ?_
    refine V_bipush (v := 40) X dX9_node_23 (by decide) ?_
    refine V_icmp_ne X dX9_node_25 35 (by decide) (fun c_25 => ?_) (fun c_25 => ?_)
    · refine V_aload_n X dX9_node_35 rfl rfl ?_
      refine M_geta X dX9_node_36 fk_X9_7 (by decide) rfl ?_
      refine V_aload_n X dX9_node_39 rfl rfl ?_
      refine M_geti X dX9_node_40 fk_X9_179 (by decide) rfl ?_
      refine V_iload_n X dX9_node_43 rfl ?_
      refine M_iast X dX9_node_44 (by decide) rfl (ct_ne h1 (by decide) 40 rfl c_25) ?_
      refine V_aload_n X dX9_node_45 rfl rfl ?_
      refine V_dup X dX9_node_46 rfl ?_
      refine M_geti X dX9_node_47 fk_X9_179 (by decide) rfl ?_
      refine V_iconst (v := 1) X dX9_node_50 (by decide) ?_
      refine V_iadd X dX9_node_51 ?_
      refine M_put X dX9_node_52 fk_X9_179 (by decide) rfl ?_
      refine V_aload_n X dX9_node_55 rfl rfl ?_
      refine M_geti X dX9_node_56 fk_X9_179 (by decide) rfl ?_
      refine V_iconst (v := 1) X dX9_node_59 (by decide) ?_
      refine V_isub X dX9_node_60 ?_
      refine V_iret X dX9_node_61 ?_ ?_ ?_ ?_
      · exact rfl
      · dsimp only [rmm]; omega
      · dsimp only [rmm]; omega
      refine ⟨?_, ?_⟩ <;> rw [op_node, if_pos h_9, if_neg c_25]
    refine V_aload_n X dX9_node_28 rfl rfl ?_
    refine V_bipush (v := (-8)) X dX9_node_29 (by decide) ?_
    apply V_callV1 X dX9_node_31 mk_X9_175 iv_X9_refuse (c_refuse9 l (x := -8) (by unfold vp_in; decide))
    · first | assumption | exact hu_s | exact (hu_n (by first | exact kd_nk (by decide) | exact kd_ni (by omega) | exact kd_ng (by omega) | assumption | exact Ne.symm (by assumption))).trans (by first | assumption | exact hu_s | exact (hu_n (by first | exact kd_nk (by decide) | exact kd_ni (by omega) | exact kd_ng (by omega) | assumption | exact Ne.symm (by assumption))).trans (by first | assumption | exact hu_s | exact (hu_n (by first | exact kd_nk (by decide) | exact kd_ni (by omega) | exact kd_ng (by omega) | assumption | exact Ne.symm (by assumption))).trans (by first | assumption | exact hu_s)))
    · exact rfl
    · exact Nat.le_of_ble_eq_true rfl
    · exact ⟨Nat.le_of_ble_eq_true rfl, Nat.le_of_ble_eq_true rfl⟩
    · exact ⟨by dsimp only [rmm]; omega, by dsimp only [rmm]; omega⟩
    rintro r I1 ⟨rfl, rfl⟩
    refine V_iret X dX9_node_34 ?_ ?_ ?_ ?_
    · exact rfl
    · dsimp only [rmm]; omega
    · dsimp only [rmm]; omega
    refine ⟨?_, ?_⟩ <;> rw [op_node, if_pos h_9, if_pos c_25]
  have h_9 := bz_f c_9
  refine V_aload_n X dX9_node_12 rfl rfl ?_
  refine V_bipush (v := (-7)) X dX9_node_13 (by decide) ?_
  apply V_callV1 X dX9_node_15 mk_X9_175 iv_X9_refuse (c_refuse9 l (x := -7) (by unfold vp_in; decide))
  · first | assumption | exact hu_s | exact (hu_n (by first | exact kd_nk (by decide) | exact kd_ni (by omega) | exact kd_ng (by omega) | assumption | exact Ne.symm (by assumption))).trans (by first | assumption | exact hu_s | exact (hu_n (by first | exact kd_nk (by decide) | exact kd_ni (by omega) | exact kd_ng (by omega) | assumption | exact Ne.symm (by assumption))).trans (by first | assumption | exact hu_s | exact (hu_n (by first | exact kd_nk (by decide) | exact kd_ni (by omega) | exact kd_ng (by omega) | assumption | exact Ne.symm (by assumption))).trans (by first | assumption | exact hu_s)))
  · exact rfl
  · exact Nat.le_of_ble_eq_true rfl
  · exact ⟨Nat.le_of_ble_eq_true rfl, Nat.le_of_ble_eq_true rfl⟩
  · exact ⟨by dsimp only [rmm]; omega, by dsimp only [rmm]; omega⟩
  rintro r I1 ⟨rfl, rfl⟩
  refine V_iret X dX9_node_18 ?_ ?_ ?_ ?_
  · exact rfl
  · dsimp only [rmm]; omega
  · dsimp only [rmm]; omega
  refine ⟨?_, ?_⟩ <;> rw [op_node, if_neg h_9]
set_option maxRecDepth 100000 in
set_option maxHeartbeats 4000000 in
theorem m_refer (l : Launch) {S : St} {J : aH} {a b t : Int32} (h1 : ct S 1 40) (h4 : ct S 4 100) : AM l yX9_refer cX9_refer 4 (some .int) (rmm 2 0 0 60) [.ref mO, .int a, .int b, .int t] (ovl S J) (fun r I' => r = some (.int (op_refer S a b t).2) ∧ I' = ovl (op_refer S a b t).1 J) := by
  refine AM_of RX9 (by decide) rfl [some (.ref mO), some (.int a), some (.int b), some (.int t)] rfl (Nat.le_of_ble_eq_true rfl) (fun Z X hNm => ?_)
  refine V_aload_n X dX9_refer_0 rfl rfl ?_
  refine V_iload_n X dX9_refer_1 rfl ?_
  apply V_callV1 X dX9_refer_2 mk_X9_183 iv_X9_isNode (c_isNode9 l h1)
  · first | assumption | exact hu_s | exact (hu_n (by first | exact kd_nk (by decide) | exact kd_ni (by omega) | exact kd_ng (by omega) | assumption | exact Ne.symm (by assumption))).trans (by first | assumption | exact hu_s | exact (hu_n (by first | exact kd_nk (by decide) | exact kd_ni (by omega) | exact kd_ng (by omega) | assumption | exact Ne.symm (by assumption))).trans (by first | assumption | exact hu_s | exact (hu_n (by first | exact kd_nk (by decide) | exact kd_ni (by omega) | exact kd_ng (by omega) | assumption | exact Ne.symm (by assumption))).trans (by first | assumption | exact hu_s)))
  · exact rfl
  · exact Nat.le_of_ble_eq_true rfl
  · exact ⟨Nat.le_of_ble_eq_true rfl, Nat.le_of_ble_eq_true rfl⟩
  · exact ⟨by dsimp only [rmm]; omega, by dsimp only [rmm]; omega⟩
  rintro r I1 ⟨rfl, rfl⟩
  refine V_if_eq X dX9_refer_5 16 (by decide) (fun c_5 => ?_) (fun c_5 => ?_)
  · have h_5 := bz_f c_5
    refine V_aload_n X dX9_refer_16 rfl rfl ?_
    refine V_bipush (v := (-4)) X dX9_refer_17 (by decide) ?_
    apply V_callV1 X dX9_refer_19 mk_X9_175 iv_X9_refuse (c_refuse9 l (x := -4) (by unfold vp_in; decide))
    · first | assumption | exact hu_s | exact (hu_n (by first | exact kd_nk (by decide) | exact kd_ni (by omega) | exact kd_ng (by omega) | assumption | exact Ne.symm (by assumption))).trans (by first | assumption | exact hu_s | exact (hu_n (by first | exact kd_nk (by decide) | exact kd_ni (by omega) | exact kd_ng (by omega) | assumption | exact Ne.symm (by assumption))).trans (by first | assumption | exact hu_s | exact (hu_n (by first | exact kd_nk (by decide) | exact kd_ni (by omega) | exact kd_ng (by omega) | assumption | exact Ne.symm (by assumption))).trans (by first | assumption | exact hu_s)))
    · exact rfl
    · exact Nat.le_of_ble_eq_true rfl
    · exact ⟨Nat.le_of_ble_eq_true rfl, Nat.le_of_ble_eq_true rfl⟩
    · exact ⟨by dsimp only [rmm]; omega, by dsimp only [rmm]; omega⟩
    rintro r I1 ⟨rfl, rfl⟩
    refine V_iret X dX9_refer_22 ?_ ?_ ?_ ?_
    · exact rfl
    · dsimp only [rmm]; omega
    · dsimp only [rmm]; omega
    refine ⟨?_, ?_⟩ <;> rw [op_refer, if_neg h_5]
  have h_5 := bz_t c_5
  refine V_aload_n X dX9_refer_8 rfl rfl ?_
  refine V_iload_n X dX9_refer_9 rfl ?_
  apply V_callV1 X dX9_refer_10 mk_X9_183 iv_X9_isNode (c_isNode9 l h1)
  · first | assumption | exact hu_s | exact (hu_n (by first | exact kd_nk (by decide) | exact kd_ni (by omega) | exact kd_ng (by omega) | assumption | exact Ne.symm (by assumption))).trans (by first | assumption | exact hu_s | exact (hu_n (by first | exact kd_nk (by decide) | exact kd_ni (by omega) | exact kd_ng (by omega) | assumption | exact Ne.symm (by assumption))).trans (by first | assumption | exact hu_s | exact (hu_n (by first | exact kd_nk (by decide) | exact kd_ni (by omega) | exact kd_ng (by omega) | assumption | exact Ne.symm (by assumption))).trans (by first | assumption | exact hu_s)))
  · exact rfl
  · exact Nat.le_of_ble_eq_true rfl
  · exact ⟨Nat.le_of_ble_eq_true rfl, Nat.le_of_ble_eq_true rfl⟩
  · exact ⟨by dsimp only [rmm]; omega, by dsimp only [rmm]; omega⟩
  rintro r I1 ⟨rfl, rfl⟩
  refine V_if_ne X dX9_refer_13 23 (by decide) (fun c_13 => ?_) (fun c_13 => ?_)
  · have h_13 := bz_t c_13
    refine V_iload_n X dX9_refer_23 rfl ?_
    refine V_i2l X dX9_refer_24 ?_
    refine V_lconst (v := 0) X dX9_refer_25 (by decide) ?_
    refine V_ldc2 X dX9_refer_26 kc_X9_187 ?_
    refine V_callS3 X dX9_refer_29 mk_X9_171 st_X9_in (c_inI l (x := t) (lo := 0) (hi := 7) rfl rfl) (Nat.le_of_ble_eq_true rfl) ⟨Nat.le_of_ble_eq_true rfl, Nat.le_of_ble_eq_true rfl⟩ ?_ ?_
    · exact ⟨by dsimp only [rmm]; omega, by dsimp only [rmm]; omega⟩
    rintro r I1 ⟨rfl, rfl⟩
    refine V_if_ne X dX9_refer_32 42 (by decide) (fun c_32 => ?_) (fun c_32 => ?_)
    · have h_32 := bz_t c_32
      refine V_aload_n X dX9_refer_42 rfl rfl ?_
      refine M_geti X dX9_refer_43 fk_X9_189 (by decide) rfl ?_
      refine V_bipush (v := 100) X dX9_refer_46 (by decide) ?_
      refine V_icmp_ne X dX9_refer_48 58 (by decide) (fun c_48 => ?_) (fun c_48 => ?_)
      · refine V_aload_n X dX9_refer_58 rfl rfl ?_
        refine M_geta X dX9_refer_59 fk_X9_17 (by decide) rfl ?_
        refine V_aload_n X dX9_refer_62 rfl rfl ?_
        refine M_geti X dX9_refer_63 fk_X9_189 (by decide) rfl ?_
        refine V_iload_n X dX9_refer_66 rfl ?_
        refine M_iast X dX9_refer_67 (by decide) rfl (ct_ne h4 (by decide) 100 rfl c_48) ?_
        refine V_aload_n X dX9_refer_68 rfl rfl ?_
        refine M_geta X dX9_refer_69 fk_X9_20 (by decide) rfl ?_
        refine V_aload_n X dX9_refer_72 rfl rfl ?_
        refine M_geti X dX9_refer_73 fk_X9_189 (by decide) rfl ?_
        refine V_iload_n X dX9_refer_76 rfl ?_
        refine M_iast X dX9_refer_77 (by decide) rfl (ct_ne h4 (by decide) 100 rfl c_48) ?_
        refine V_aload_n X dX9_refer_78 rfl rfl ?_
        refine M_geta X dX9_refer_79 fk_X9_23 (by decide) rfl ?_
        refine V_aload_n X dX9_refer_82 rfl rfl ?_
        refine M_geti X dX9_refer_83 fk_X9_189 (by decide) rfl ?_
        refine V_iload_n X dX9_refer_86 rfl ?_
        refine M_iast X dX9_refer_87 (by decide) rfl (ct_ne h4 (by decide) 100 rfl c_48) ?_
        refine V_aload_n X dX9_refer_88 rfl rfl ?_
        refine V_dup X dX9_refer_89 rfl ?_
        refine M_geti X dX9_refer_90 fk_X9_189 (by decide) rfl ?_
        refine V_iconst (v := 1) X dX9_refer_93 (by decide) ?_
        refine V_iadd X dX9_refer_94 ?_
        refine M_put X dX9_refer_95 fk_X9_189 (by decide) rfl ?_
        refine V_aload_n X dX9_refer_98 rfl rfl ?_
        refine M_geti X dX9_refer_99 fk_X9_189 (by decide) rfl ?_
        refine V_iconst (v := 1) X dX9_refer_102 (by decide) ?_
        refine V_isub X dX9_refer_103 ?_
        refine V_iret X dX9_refer_104 ?_ ?_ ?_ ?_
        · exact rfl
        · dsimp only [rmm]; omega
        · dsimp only [rmm]; omega
        refine ⟨?_, ?_⟩ <;> rw [op_refer, if_pos h_5, if_pos h_13, if_pos h_32, if_neg c_48]
      refine V_aload_n X dX9_refer_51 rfl rfl ?_
      refine V_bipush (v := (-8)) X dX9_refer_52 (by decide) ?_
      apply V_callV1 X dX9_refer_54 mk_X9_175 iv_X9_refuse (c_refuse9 l (x := -8) (by unfold vp_in; decide))
      · first | assumption | exact hu_s | exact (hu_n (by first | exact kd_nk (by decide) | exact kd_ni (by omega) | exact kd_ng (by omega) | assumption | exact Ne.symm (by assumption))).trans (by first | assumption | exact hu_s | exact (hu_n (by first | exact kd_nk (by decide) | exact kd_ni (by omega) | exact kd_ng (by omega) | assumption | exact Ne.symm (by assumption))).trans (by first | assumption | exact hu_s | exact (hu_n (by first | exact kd_nk (by decide) | exact kd_ni (by omega) | exact kd_ng (by omega) | assumption | exact Ne.symm (by assumption))).trans (by first | assumption | exact hu_s)))
      · exact rfl
      · exact Nat.le_of_ble_eq_true rfl
      · exact ⟨Nat.le_of_ble_eq_true rfl, Nat.le_of_ble_eq_true rfl⟩
      · exact ⟨by dsimp only [rmm]; omega, by dsimp only [rmm]; omega⟩
      rintro r I1 ⟨rfl, rfl⟩
      refine V_iret X dX9_refer_57 ?_ ?_ ?_ ?_
      · exact rfl
      · dsimp only [rmm]; omega
      · dsimp only [rmm]; omega
      refine ⟨?_, ?_⟩ <;> rw [op_refer, if_pos h_5, if_pos h_13, if_pos h_32, if_pos c_48]
    have h_32 := bz_f c_32
    refine V_aload_n X dX9_refer_35 rfl rfl ?_
    refine V_bipush (v := (-7)) X dX9_refer_36 (by decide) ?_
    apply V_callV1 X dX9_refer_38 mk_X9_175 iv_X9_refuse (c_refuse9 l (x := -7) (by unfold vp_in; decide))
    · first | assumption | exact hu_s | exact (hu_n (by first | exact kd_nk (by decide) | exact kd_ni (by omega) | exact kd_ng (by omega) | assumption | exact Ne.symm (by assumption))).trans (by first | assumption | exact hu_s | exact (hu_n (by first | exact kd_nk (by decide) | exact kd_ni (by omega) | exact kd_ng (by omega) | assumption | exact Ne.symm (by assumption))).trans (by first | assumption | exact hu_s | exact (hu_n (by first | exact kd_nk (by decide) | exact kd_ni (by omega) | exact kd_ng (by omega) | assumption | exact Ne.symm (by assumption))).trans (by first | assumption | exact hu_s)))
    · exact rfl
    · exact Nat.le_of_ble_eq_true rfl
    · exact ⟨Nat.le_of_ble_eq_true rfl, Nat.le_of_ble_eq_true rfl⟩
    · exact ⟨by dsimp only [rmm]; omega, by dsimp only [rmm]; omega⟩
    rintro r I1 ⟨rfl, rfl⟩
    refine V_iret X dX9_refer_41 ?_ ?_ ?_ ?_
    · exact rfl
    · dsimp only [rmm]; omega
    · dsimp only [rmm]; omega
    refine ⟨?_, ?_⟩ <;> rw [op_refer, if_pos h_5, if_pos h_13, if_neg h_32]
  have h_13 := bz_f c_13
  refine V_aload_n X dX9_refer_16 rfl rfl ?_
  refine V_bipush (v := (-4)) X dX9_refer_17 (by decide) ?_
  apply V_callV1 X dX9_refer_19 mk_X9_175 iv_X9_refuse (c_refuse9 l (x := -4) (by unfold vp_in; decide))
  · first | assumption | exact hu_s | exact (hu_n (by first | exact kd_nk (by decide) | exact kd_ni (by omega) | exact kd_ng (by omega) | assumption | exact Ne.symm (by assumption))).trans (by first | assumption | exact hu_s | exact (hu_n (by first | exact kd_nk (by decide) | exact kd_ni (by omega) | exact kd_ng (by omega) | assumption | exact Ne.symm (by assumption))).trans (by first | assumption | exact hu_s | exact (hu_n (by first | exact kd_nk (by decide) | exact kd_ni (by omega) | exact kd_ng (by omega) | assumption | exact Ne.symm (by assumption))).trans (by first | assumption | exact hu_s)))
  · exact rfl
  · exact Nat.le_of_ble_eq_true rfl
  · exact ⟨Nat.le_of_ble_eq_true rfl, Nat.le_of_ble_eq_true rfl⟩
  · exact ⟨by dsimp only [rmm]; omega, by dsimp only [rmm]; omega⟩
  rintro r I1 ⟨rfl, rfl⟩
  refine V_iret X dX9_refer_22 ?_ ?_ ?_ ?_
  · exact rfl
  · dsimp only [rmm]; omega
  · dsimp only [rmm]; omega
  refine ⟨?_, ?_⟩ <;> rw [op_refer, if_pos h_5, if_neg h_13]
set_option maxRecDepth 100000 in
set_option maxHeartbeats 4000000 in
theorem m_change (l : Launch) {S : St} {J : aH} {n : Int32} {v : Int64} (h1 : ct S 1 40) : AM l yX9_change cX9_change 4 (some .int) (rmm 3 0 0 70) [.ref mO, .int n, .long v] (ovl S J) (fun r I' => r = some (.int (op_change S n v).2) ∧ I' = ovl (op_change S n v).1 J) := by
  refine AM_of RX9 (by decide) rfl [some (.ref mO), some (.int n), some (.long v), none] rfl (Nat.le_of_ble_eq_true rfl) (fun Z X hNm => ?_)
  refine V_aload_n X dX9_change_0 rfl rfl ?_
  refine V_iload_n X dX9_change_1 rfl ?_
  apply V_callV1 X dX9_change_2 mk_X9_192 iv_X9_isVariable (c_isVar9 l h1)
  · first | assumption | exact hu_s | exact (hu_n (by first | exact kd_nk (by decide) | exact kd_ni (by omega) | exact kd_ng (by omega) | assumption | exact Ne.symm (by assumption))).trans (by first | assumption | exact hu_s | exact (hu_n (by first | exact kd_nk (by decide) | exact kd_ni (by omega) | exact kd_ng (by omega) | assumption | exact Ne.symm (by assumption))).trans (by first | assumption | exact hu_s | exact (hu_n (by first | exact kd_nk (by decide) | exact kd_ni (by omega) | exact kd_ng (by omega) | assumption | exact Ne.symm (by assumption))).trans (by first | assumption | exact hu_s)))
  · exact rfl
  · exact Nat.le_of_ble_eq_true rfl
  · exact ⟨Nat.le_of_ble_eq_true rfl, Nat.le_of_ble_eq_true rfl⟩
  · exact ⟨by dsimp only [rmm]; omega, by dsimp only [rmm]; omega⟩
  rintro r I1 ⟨rfl, rfl⟩
  refine V_if_ne X dX9_change_5 15 (by decide) (fun c_5 => ?_) (fun c_5 => ?_)
  · have h_5 := bz_t c_5
    refine V_aload_n X dX9_change_15 rfl rfl ?_
    refine M_geta X dX9_change_16 fk_X9_13 (by decide) rfl ?_
    refine V_iload_n X dX9_change_19 rfl ?_
    refine V_lload_n X dX9_change_20 rfl ?_
    refine M_last X dX9_change_21 (by decide) rfl (nod_in h1 h_5.1) ?_
    refine V_iconst (v := 1) X dX9_change_22 (by decide) ?_
    refine V_iret X dX9_change_23 ?_ ?_ ?_ ?_
    · exact rfl
    · dsimp only [rmm]; omega
    · dsimp only [rmm]; omega
    refine ⟨?_, ?_⟩ <;> rw [op_change, if_pos h_5]
  have h_5 := bz_f c_5
  refine V_aload_n X dX9_change_8 rfl rfl ?_
  refine V_bipush (v := (-4)) X dX9_change_9 (by decide) ?_
  apply V_callV1 X dX9_change_11 mk_X9_175 iv_X9_refuse (c_refuse9 l (x := -4) (by unfold vp_in; decide))
  · first | assumption | exact hu_s | exact (hu_n (by first | exact kd_nk (by decide) | exact kd_ni (by omega) | exact kd_ng (by omega) | assumption | exact Ne.symm (by assumption))).trans (by first | assumption | exact hu_s | exact (hu_n (by first | exact kd_nk (by decide) | exact kd_ni (by omega) | exact kd_ng (by omega) | assumption | exact Ne.symm (by assumption))).trans (by first | assumption | exact hu_s | exact (hu_n (by first | exact kd_nk (by decide) | exact kd_ni (by omega) | exact kd_ng (by omega) | assumption | exact Ne.symm (by assumption))).trans (by first | assumption | exact hu_s)))
  · exact rfl
  · exact Nat.le_of_ble_eq_true rfl
  · exact ⟨Nat.le_of_ble_eq_true rfl, Nat.le_of_ble_eq_true rfl⟩
  · exact ⟨by dsimp only [rmm]; omega, by dsimp only [rmm]; omega⟩
  rintro r I1 ⟨rfl, rfl⟩
  refine V_iret X dX9_change_14 ?_ ?_ ?_ ?_
  · exact rfl
  · dsimp only [rmm]; omega
  · dsimp only [rmm]; omega
  refine ⟨?_, ?_⟩ <;> rw [op_change, if_neg h_5]
set_option maxRecDepth 100000 in
set_option maxHeartbeats 4000000 in
theorem m_session (l : Launch) {S : St} {J : aH} {t : Int32} (h8 : ct S 8 12) : AM l yX9_session cX9_session 2 (some .int) (rmm 1 0 0 30) [.ref mO, .int t] (ovl S J) (fun r I' => r = some (.int (op_session S t).2) ∧ I' = ovl (op_session S t).1 J) := by
  refine AM_of RX9 (by decide) rfl [some (.ref mO), some (.int t)] rfl (Nat.le_of_ble_eq_true rfl) (fun Z X hNm => ?_)
  refine V_iload_n X dX9_session_0 rfl ?_
  refine V_i2l X dX9_session_1 ?_
  refine V_lconst (v := 1) X dX9_session_2 (by decide) ?_
  refine V_ldc2 X dX9_session_3 kc_X9_254 ?_
  refine V_callS3 X dX9_session_6 mk_X9_171 st_X9_in (c_inI l (x := t) (lo := 1) (hi := 1000) rfl rfl) (Nat.le_of_ble_eq_true rfl) ⟨Nat.le_of_ble_eq_true rfl, Nat.le_of_ble_eq_true rfl⟩ ?_ ?_
  · exact ⟨by dsimp only [rmm]; omega, by dsimp only [rmm]; omega⟩
  rintro r I1 ⟨rfl, rfl⟩
  refine V_if_ne X dX9_session_9 19 (by decide) (fun c_9 => ?_) (fun c_9 => ?_)
  · have h_9 := bz_t c_9
    refine V_aload_n X dX9_session_19 rfl rfl ?_
    refine M_geti X dX9_session_20 fk_X9_248 (by decide) rfl ?_
    refine V_bipush (v := 12) X dX9_session_23 (by decide) ?_
    refine V_icmp_ne X dX9_session_25 35 (by decide) (fun c_25 => ?_) (fun c_25 => ?_)
    · refine V_aload_n X dX9_session_35 rfl rfl ?_
      refine M_geta X dX9_session_36 fk_X9_26 (by decide) rfl ?_
      refine V_aload_n X dX9_session_39 rfl rfl ?_
      refine M_geti X dX9_session_40 fk_X9_248 (by decide) rfl ?_
      refine V_iload_n X dX9_session_43 rfl ?_
      refine M_iast X dX9_session_44 (by decide) rfl (ct_ne h8 (by decide) 12 rfl c_25) ?_
      refine V_aload_n X dX9_session_45 rfl rfl ?_
      refine M_geta X dX9_session_46 fk_X9_29 (by decide) rfl ?_
      refine V_aload_n X dX9_session_49 rfl rfl ?_
      refine M_geti X dX9_session_50 fk_X9_248 (by decide) rfl ?_
      refine V_aload_n X dX9_session_53 rfl rfl ?_
      refine M_geti X dX9_session_54 fk_X9_199 (by decide) rfl ?_
      refine V_iload_n X dX9_session_57 rfl ?_
      refine V_iadd X dX9_session_58 ?_
      refine M_iast X dX9_session_59 (by decide) rfl (ct_ne h8 (by decide) 12 rfl c_25) ?_
      refine V_aload_n X dX9_session_60 rfl rfl ?_
      refine M_geta X dX9_session_61 fk_X9_32 (by decide) rfl ?_
      refine V_aload_n X dX9_session_64 rfl rfl ?_
      refine M_geti X dX9_session_65 fk_X9_248 (by decide) rfl ?_
      refine V_iconst (v := 0) X dX9_session_68 (by decide) ?_
      refine M_iast X dX9_session_69 (by decide) rfl (ct_ne h8 (by decide) 12 rfl c_25) ?_
      refine V_aload_n X dX9_session_70 rfl rfl ?_
      refine V_dup X dX9_session_71 rfl ?_
      refine M_geti X dX9_session_72 fk_X9_248 (by decide) rfl ?_
      refine V_iconst (v := 1) X dX9_session_75 (by decide) ?_
      refine V_iadd X dX9_session_76 ?_
      refine M_put X dX9_session_77 fk_X9_248 (by decide) rfl ?_
      refine V_aload_n X dX9_session_80 rfl rfl ?_
      refine M_geti X dX9_session_81 fk_X9_248 (by decide) rfl ?_
      refine V_iconst (v := 1) X dX9_session_84 (by decide) ?_
      refine V_isub X dX9_session_85 ?_
      refine V_iret X dX9_session_86 ?_ ?_ ?_ ?_
      · exact rfl
      · dsimp only [rmm]; omega
      · dsimp only [rmm]; omega
      refine ⟨?_, ?_⟩ <;> rw [op_session, if_pos h_9, if_neg c_25]
    refine V_aload_n X dX9_session_28 rfl rfl ?_
    refine V_bipush (v := (-8)) X dX9_session_29 (by decide) ?_
    apply V_callV1 X dX9_session_31 mk_X9_175 iv_X9_refuse (c_refuse9 l (x := -8) (by unfold vp_in; decide))
    · first | assumption | exact hu_s | exact (hu_n (by first | exact kd_nk (by decide) | exact kd_ni (by omega) | exact kd_ng (by omega) | assumption | exact Ne.symm (by assumption))).trans (by first | assumption | exact hu_s | exact (hu_n (by first | exact kd_nk (by decide) | exact kd_ni (by omega) | exact kd_ng (by omega) | assumption | exact Ne.symm (by assumption))).trans (by first | assumption | exact hu_s | exact (hu_n (by first | exact kd_nk (by decide) | exact kd_ni (by omega) | exact kd_ng (by omega) | assumption | exact Ne.symm (by assumption))).trans (by first | assumption | exact hu_s)))
    · exact rfl
    · exact Nat.le_of_ble_eq_true rfl
    · exact ⟨Nat.le_of_ble_eq_true rfl, Nat.le_of_ble_eq_true rfl⟩
    · exact ⟨by dsimp only [rmm]; omega, by dsimp only [rmm]; omega⟩
    rintro r I1 ⟨rfl, rfl⟩
    refine V_iret X dX9_session_34 ?_ ?_ ?_ ?_
    · exact rfl
    · dsimp only [rmm]; omega
    · dsimp only [rmm]; omega
    refine ⟨?_, ?_⟩ <;> rw [op_session, if_pos h_9, if_pos c_25]
  have h_9 := bz_f c_9
  refine V_aload_n X dX9_session_12 rfl rfl ?_
  refine V_bipush (v := (-7)) X dX9_session_13 (by decide) ?_
  apply V_callV1 X dX9_session_15 mk_X9_175 iv_X9_refuse (c_refuse9 l (x := -7) (by unfold vp_in; decide))
  · first | assumption | exact hu_s | exact (hu_n (by first | exact kd_nk (by decide) | exact kd_ni (by omega) | exact kd_ng (by omega) | assumption | exact Ne.symm (by assumption))).trans (by first | assumption | exact hu_s | exact (hu_n (by first | exact kd_nk (by decide) | exact kd_ni (by omega) | exact kd_ng (by omega) | assumption | exact Ne.symm (by assumption))).trans (by first | assumption | exact hu_s | exact (hu_n (by first | exact kd_nk (by decide) | exact kd_ni (by omega) | exact kd_ng (by omega) | assumption | exact Ne.symm (by assumption))).trans (by first | assumption | exact hu_s)))
  · exact rfl
  · exact Nat.le_of_ble_eq_true rfl
  · exact ⟨Nat.le_of_ble_eq_true rfl, Nat.le_of_ble_eq_true rfl⟩
  · exact ⟨by dsimp only [rmm]; omega, by dsimp only [rmm]; omega⟩
  rintro r I1 ⟨rfl, rfl⟩
  refine V_iret X dX9_session_18 ?_ ?_ ?_ ?_
  · exact rfl
  · dsimp only [rmm]; omega
  · dsimp only [rmm]; omega
  refine ⟨?_, ?_⟩ <;> rw [op_session, if_neg h_9]
set_option maxRecDepth 100000 in
set_option maxHeartbeats 4000000 in
theorem m_activate (l : Launch) {S : St} {J : aH} {s : Int32} (h8 : ct S 8 12) : AM l yX9_activate cX9_activate 2 (some .int) (rmm 1 0 0 30) [.ref mO, .int s] (ovl S J) (fun r I' => r = some (.int (op_activate S s).2) ∧ I' = ovl (op_activate S s).1 J) := by
  obtain ⟨N8, hN8, e8⟩ := id h8
  refine AM_of RX9 (by decide) rfl [some (.ref mO), some (.int s)] rfl (Nat.le_of_ble_eq_true rfl) (fun Z X hNm => ?_)
  refine V_iload_n X dX9_activate_0 rfl ?_
  refine V_i2l X dX9_activate_1 ?_
  refine V_lconst (v := 0) X dX9_activate_2 (by decide) ?_
  refine V_aload_n X dX9_activate_3 rfl rfl ?_
  refine M_geti X dX9_activate_4 fk_X9_248 (by decide) rfl ?_
  refine V_iconst (v := 1) X dX9_activate_7 (by decide) ?_
  refine V_isub X dX9_activate_8 ?_
  refine V_i2l X dX9_activate_9 ?_
  refine V_callS3 X dX9_activate_10 mk_X9_171 st_X9_in (c_inX l (N := N8) (by omega) e8) (Nat.le_of_ble_eq_true rfl) ⟨Nat.le_of_ble_eq_true rfl, Nat.le_of_ble_eq_true rfl⟩ ?_ ?_
  · exact ⟨by dsimp only [rmm]; omega, by dsimp only [rmm]; omega⟩
  rintro r I1 ⟨rfl, rfl⟩
  refine V_if_ne X dX9_activate_13 22 (by decide) (fun c_13 => ?_) (fun c_13 => ?_)
  · have h_13 := bz_t c_13
    refine V_aload_n X dX9_activate_22 rfl rfl ?_
    refine M_geta X dX9_activate_23 fk_X9_32 (by decide) rfl ?_
    refine V_iload_n X dX9_activate_26 rfl ?_
    refine M_iald X dX9_activate_27 (by decide) rfl (ses_in h8 h_13) ?_
    refine V_iconst (v := 2) X dX9_activate_28 (by decide) ?_
    refine V_icmp_ne X dX9_activate_29 39 (by decide) (fun c_29 => ?_) (fun c_29 => ?_)
    · refine V_aload_n X dX9_activate_39 rfl rfl ?_
      refine M_geta X dX9_activate_40 fk_X9_32 (by decide) rfl ?_
      refine V_iload_n X dX9_activate_43 rfl ?_
      refine V_iconst (v := 1) X dX9_activate_44 (by decide) ?_
      refine M_iast X dX9_activate_45 (by decide) rfl (ses_in h8 h_13) ?_
      refine V_aload_n X dX9_activate_46 rfl rfl ?_
      refine M_geta X dX9_activate_47 fk_X9_29 (by decide) rfl ?_
      refine V_iload_n X dX9_activate_50 rfl ?_
      refine V_aload_n X dX9_activate_51 rfl rfl ?_
      refine M_geti X dX9_activate_52 fk_X9_199 (by decide) rfl ?_
      refine V_aload_n X dX9_activate_55 rfl rfl ?_
      refine M_geta X dX9_activate_56 fk_X9_26 (by decide) rfl ?_
      refine V_iload_n X dX9_activate_59 rfl ?_
      refine M_iald X dX9_activate_60 (by decide) rfl (ses_in h8 h_13) ?_
      refine V_iadd X dX9_activate_61 ?_
      refine M_iast X dX9_activate_62 (by decide) rfl (ses_in h8 h_13) ?_
      refine V_iconst (v := 1) X dX9_activate_63 (by decide) ?_
      refine V_iret X dX9_activate_64 ?_ ?_ ?_ ?_
      · exact rfl
      · dsimp only [rmm]; omega
      · dsimp only [rmm]; omega
      refine ⟨?_, ?_⟩ <;> rw [op_activate, if_pos h_13, if_neg c_29]
    refine V_aload_n X dX9_activate_32 rfl rfl ?_
    refine V_bipush (v := (-2)) X dX9_activate_33 (by decide) ?_
    apply V_callV1 X dX9_activate_35 mk_X9_175 iv_X9_refuse (c_refuse9 l (x := -2) (by unfold vp_in; decide))
    · first | assumption | exact hu_s | exact (hu_n (by first | exact kd_nk (by decide) | exact kd_ni (by omega) | exact kd_ng (by omega) | assumption | exact Ne.symm (by assumption))).trans (by first | assumption | exact hu_s | exact (hu_n (by first | exact kd_nk (by decide) | exact kd_ni (by omega) | exact kd_ng (by omega) | assumption | exact Ne.symm (by assumption))).trans (by first | assumption | exact hu_s | exact (hu_n (by first | exact kd_nk (by decide) | exact kd_ni (by omega) | exact kd_ng (by omega) | assumption | exact Ne.symm (by assumption))).trans (by first | assumption | exact hu_s)))
    · exact rfl
    · exact Nat.le_of_ble_eq_true rfl
    · exact ⟨Nat.le_of_ble_eq_true rfl, Nat.le_of_ble_eq_true rfl⟩
    · exact ⟨by dsimp only [rmm]; omega, by dsimp only [rmm]; omega⟩
    rintro r I1 ⟨rfl, rfl⟩
    refine V_iret X dX9_activate_38 ?_ ?_ ?_ ?_
    · exact rfl
    · dsimp only [rmm]; omega
    · dsimp only [rmm]; omega
    refine ⟨?_, ?_⟩ <;> rw [op_activate, if_pos h_13, if_pos c_29]
  have h_13 := bz_f c_13
  refine V_aload_n X dX9_activate_16 rfl rfl ?_
  refine V_iconst (v := (-1)) X dX9_activate_17 (by decide) ?_
  apply V_callV1 X dX9_activate_18 mk_X9_175 iv_X9_refuse (c_refuse9 l (x := -1) (by unfold vp_in; decide))
  · first | assumption | exact hu_s | exact (hu_n (by first | exact kd_nk (by decide) | exact kd_ni (by omega) | exact kd_ng (by omega) | assumption | exact Ne.symm (by assumption))).trans (by first | assumption | exact hu_s | exact (hu_n (by first | exact kd_nk (by decide) | exact kd_ni (by omega) | exact kd_ng (by omega) | assumption | exact Ne.symm (by assumption))).trans (by first | assumption | exact hu_s | exact (hu_n (by first | exact kd_nk (by decide) | exact kd_ni (by omega) | exact kd_ng (by omega) | assumption | exact Ne.symm (by assumption))).trans (by first | assumption | exact hu_s)))
  · exact rfl
  · exact Nat.le_of_ble_eq_true rfl
  · exact ⟨Nat.le_of_ble_eq_true rfl, Nat.le_of_ble_eq_true rfl⟩
  · exact ⟨by dsimp only [rmm]; omega, by dsimp only [rmm]; omega⟩
  rintro r I1 ⟨rfl, rfl⟩
  refine V_iret X dX9_activate_21 ?_ ?_ ?_ ?_
  · exact rfl
  · dsimp only [rmm]; omega
  · dsimp only [rmm]; omega
  refine ⟨?_, ?_⟩ <;> rw [op_activate, if_neg h_13]
set_option maxRecDepth 100000 in
set_option maxHeartbeats 4000000 in
theorem c_lacks (l : Launch) {S : St} {J : aH} {s : Int32} (h8 : ct S 8 12) : AM l yX9_lacks cX9_lacks 2 (some .int) (rmm 1 0 0 25) [.ref mO, .int s] (ovl S J) (fun r I' => r = some (.int (lackS S s)) ∧ I' = ovl (entS S s) J) := by
  obtain ⟨N8, hN8, e8⟩ := id h8
  refine AM_of RX9 (by decide) rfl [some (.ref mO), some (.int s)] rfl (Nat.le_of_ble_eq_true rfl) (fun Z X hNm => ?_)
  refine V_iload_n X dX9_lacks_0 rfl ?_
  refine V_i2l X dX9_lacks_1 ?_
  refine V_lconst (v := 0) X dX9_lacks_2 (by decide) ?_
  refine V_aload_n X dX9_lacks_3 rfl rfl ?_
  refine M_geti X dX9_lacks_4 fk_X9_248 (by decide) rfl ?_
  refine V_iconst (v := 1) X dX9_lacks_7 (by decide) ?_
  refine V_isub X dX9_lacks_8 ?_
  refine V_i2l X dX9_lacks_9 ?_
  refine V_callS3 X dX9_lacks_10 mk_X9_171 st_X9_in (c_inX l (N := N8) (by omega) e8) (Nat.le_of_ble_eq_true rfl) ⟨Nat.le_of_ble_eq_true rfl, Nat.le_of_ble_eq_true rfl⟩ ?_ ?_
  · exact ⟨by dsimp only [rmm]; omega, by dsimp only [rmm]; omega⟩
  rintro r I1 ⟨rfl, rfl⟩
  refine V_if_ne X dX9_lacks_13 18 (by decide) (fun c_13 => ?_) (fun c_13 => ?_)
  · have h_13 := bz_t c_13
    refine V_aload_n X dX9_lacks_18 rfl rfl ?_
    refine M_geta X dX9_lacks_19 fk_X9_32 (by decide) rfl ?_
    refine V_iload_n X dX9_lacks_22 rfl ?_
    refine M_iald X dX9_lacks_23 (by decide) rfl (ses_in h8 h_13) ?_
    refine V_iconst (v := 1) X dX9_lacks_24 (by decide) ?_
    refine V_icmp_eq X dX9_lacks_25 46 (by decide) (fun c_25 => ?_) (fun c_25 => ?_)
    · refine V_aload_n X dX9_lacks_46 rfl rfl ?_
      refine M_geta X dX9_lacks_47 fk_X9_29 (by decide) rfl ?_
      refine V_iload_n X dX9_lacks_50 rfl ?_
      refine V_aload_n X dX9_lacks_51 rfl rfl ?_
      refine M_geti X dX9_lacks_52 fk_X9_199 (by decide) rfl ?_
      refine V_aload_n X dX9_lacks_55 rfl rfl ?_
      refine M_geta X dX9_lacks_56 fk_X9_26 (by decide) rfl ?_
      refine V_iload_n X dX9_lacks_59 rfl ?_
      refine M_iald X dX9_lacks_60 (by decide) rfl (ses_in h8 h_13) ?_
      refine V_iadd X dX9_lacks_61 ?_
      refine M_iast X dX9_lacks_62 (by decide) rfl (ses_in h8 h_13) ?_
      refine V_iconst (v := 0) X dX9_lacks_63 (by decide) ?_
      refine V_iret X dX9_lacks_64 ?_ ?_ ?_ ?_
      · exact rfl
      · dsimp only [rmm]; omega
      · dsimp only [rmm]; omega
      have e : lackS S s = 0 := by rw [lackS, if_pos h_13, if_pos c_25]
      exact ⟨by rw [e], by rw [entS, if_pos e]⟩
    refine V_aload_n X dX9_lacks_28 rfl rfl ?_
    refine M_geta X dX9_lacks_29 fk_X9_32 (by decide) rfl ?_
    refine V_iload_n X dX9_lacks_32 rfl ?_
    refine M_iald X dX9_lacks_33 (by decide) rfl (ses_in h8 h_13) ?_
    refine V_iconst (v := 2) X dX9_lacks_34 (by decide) ?_
    refine V_icmp_ne X dX9_lacks_35 43 (by decide) (fun c_35 => ?_) (fun c_35 => ?_)
    · refine V_bipush (v := (-3)) X dX9_lacks_43 (by decide) ?_
      refine V_iret X dX9_lacks_45 ?_ ?_ ?_ ?_
      · exact rfl
      · dsimp only [rmm]; omega
      · dsimp only [rmm]; omega
      have e : lackS S s = -3 := by rw [lackS, if_pos h_13, if_neg c_25, if_neg c_35]
      exact ⟨by rw [e], by rw [entS, e, if_neg (by decide)]⟩
    refine V_bipush (v := (-2)) X dX9_lacks_38 (by decide) ?_
    refine V_goto X dX9_lacks_40 45 (by decide) ?_
    refine V_iret X dX9_lacks_45 ?_ ?_ ?_ ?_
    · exact rfl
    · dsimp only [rmm]; omega
    · dsimp only [rmm]; omega
    have e : lackS S s = -2 := by rw [lackS, if_pos h_13, if_neg c_25, if_pos c_35]
    exact ⟨by rw [e], by rw [entS, e, if_neg (by decide)]⟩
  have h_13 := bz_f c_13
  refine V_iconst (v := (-1)) X dX9_lacks_16 (by decide) ?_
  refine V_iret X dX9_lacks_17 ?_ ?_ ?_ ?_
  · exact rfl
  · dsimp only [rmm]; omega
  · dsimp only [rmm]; omega
  have e : lackS S s = -1 := by rw [lackS, if_neg h_13]
  exact ⟨by rw [e], by rw [entS, e, if_neg (by decide)]⟩
set_option maxRecDepth 100000 in
set_option maxHeartbeats 4000000 in
theorem m_read (l : Launch) {S : St} {J : aH} {s n : Int32} (h1 : ct S 1 40) (h8 : ct S 8 12) : AM l yX9_read cX9_read 4 (some .int) (rmm 3 0 0 70) [.ref mO, .int s, .int n] (ovl S J) (fun r I' => r = some (.int (op_read S s n).2) ∧ I' = ovl (op_read S s n).1 J) := by
  refine AM_of RX9 (by decide) rfl [some (.ref mO), some (.int s), some (.int n), none] rfl (Nat.le_of_ble_eq_true rfl) (fun Z X hNm => ?_)
  refine V_aload_n X dX9_read_0 rfl rfl ?_
  refine V_iload_n X dX9_read_1 rfl ?_
  apply V_callV1 X dX9_read_2 mk_X9_260 iv_X9_lacks (c_lacks l h8)
  · first | assumption | exact hu_s | exact (hu_n (by first | exact kd_nk (by decide) | exact kd_ni (by omega) | exact kd_ng (by omega) | assumption | exact Ne.symm (by assumption))).trans (by first | assumption | exact hu_s | exact (hu_n (by first | exact kd_nk (by decide) | exact kd_ni (by omega) | exact kd_ng (by omega) | assumption | exact Ne.symm (by assumption))).trans (by first | assumption | exact hu_s | exact (hu_n (by first | exact kd_nk (by decide) | exact kd_ni (by omega) | exact kd_ng (by omega) | assumption | exact Ne.symm (by assumption))).trans (by first | assumption | exact hu_s)))
  · exact rfl
  · exact Nat.le_of_ble_eq_true rfl
  · exact ⟨Nat.le_of_ble_eq_true rfl, Nat.le_of_ble_eq_true rfl⟩
  · exact ⟨by dsimp only [rmm]; omega, by dsimp only [rmm]; omega⟩
  rintro r I1 ⟨rfl, rfl⟩
  refine V_istore_n X dX9_read_5 (by decide) rfl ?_
  refine V_iload_n X dX9_read_6 rfl ?_
  refine V_if_ge X dX9_read_7 14 (by decide) (fun c_7 => ?_) (fun c_7 => ?_)
  · refine V_aload_n X dX9_read_14 rfl rfl ?_
    refine V_iload_n X dX9_read_15 rfl ?_
    apply V_callV1 X dX9_read_16 mk_X9_192 iv_X9_isVariable (c_isVar9 l (ct_ent h1 (by decide)))
    · first | assumption | exact hu_s | exact (hu_n (by first | exact kd_nk (by decide) | exact kd_ni (by omega) | exact kd_ng (by omega) | assumption | exact Ne.symm (by assumption))).trans (by first | assumption | exact hu_s | exact (hu_n (by first | exact kd_nk (by decide) | exact kd_ni (by omega) | exact kd_ng (by omega) | assumption | exact Ne.symm (by assumption))).trans (by first | assumption | exact hu_s | exact (hu_n (by first | exact kd_nk (by decide) | exact kd_ni (by omega) | exact kd_ng (by omega) | assumption | exact Ne.symm (by assumption))).trans (by first | assumption | exact hu_s)))
    · exact rfl
    · exact Nat.le_of_ble_eq_true rfl
    · exact ⟨Nat.le_of_ble_eq_true rfl, Nat.le_of_ble_eq_true rfl⟩
    · exact ⟨by dsimp only [rmm]; omega, by dsimp only [rmm]; omega⟩
    rintro r I1 ⟨rfl, rfl⟩
    refine V_if_ne X dX9_read_19 27 (by decide) (fun c_19 => ?_) (fun c_19 => ?_)
    · have h_19 := bz_t c_19
      refine V_iconst (v := 0) X dX9_read_27 (by decide) ?_
      refine V_istore_n X dX9_read_28 (by decide) rfl ?_
      refine V_iload_n X dX9_read_29 rfl ?_
      refine V_if_ge X dX9_read_30 39 (by decide) (fun c_30 => ?_) (fun c_30 => ?_)
      · refine V_aload_n X dX9_read_39 rfl rfl ?_
        refine V_aload_n X dX9_read_40 rfl rfl ?_
        refine M_geta X dX9_read_41 fk_X9_13 (by decide) rfl ?_
        refine V_iload_n X dX9_read_44 rfl ?_
        refine M_lald X dX9_read_45 (by decide) rfl (nod_in (ct_ent h1 (by decide)) h_19.1) ?_
        refine M_putl X dX9_read_46 fk_X9_263 (by decide) rfl ?_
        refine V_iconst (v := 0) X dX9_read_49 (by decide) ?_
        refine V_iret X dX9_read_50 ?_ ?_ ?_ ?_
        · exact rfl
        · dsimp only [rmm]; omega
        · dsimp only [rmm]; omega
        refine ⟨?_, ?_⟩ <;> rw [op_read, if_pos c_7, if_pos h_19]
      · exact absurd c_30 (by decide)
    have h_19 := bz_f c_19
    refine V_bipush (v := (-4)) X dX9_read_22 (by decide) ?_
    refine V_goto X dX9_read_24 28 (by decide) ?_
    refine V_istore_n X dX9_read_28 (by decide) rfl ?_
    refine V_iload_n X dX9_read_29 rfl ?_
    refine V_if_ge X dX9_read_30 39 (by decide) (fun c_30 => ?_) (fun c_30 => ?_)
    · exact absurd c_30 (by decide)
    refine V_aload_n X dX9_read_33 rfl rfl ?_
    refine V_iload_n X dX9_read_34 rfl ?_
    apply V_callV1 X dX9_read_35 mk_X9_175 iv_X9_refuse (c_refuse9 l (x := -4) (by unfold vp_in; decide))
    · first | assumption | exact hu_s | exact (hu_n (by first | exact kd_nk (by decide) | exact kd_ni (by omega) | exact kd_ng (by omega) | assumption | exact Ne.symm (by assumption))).trans (by first | assumption | exact hu_s | exact (hu_n (by first | exact kd_nk (by decide) | exact kd_ni (by omega) | exact kd_ng (by omega) | assumption | exact Ne.symm (by assumption))).trans (by first | assumption | exact hu_s | exact (hu_n (by first | exact kd_nk (by decide) | exact kd_ni (by omega) | exact kd_ng (by omega) | assumption | exact Ne.symm (by assumption))).trans (by first | assumption | exact hu_s)))
    · exact rfl
    · exact Nat.le_of_ble_eq_true rfl
    · exact ⟨Nat.le_of_ble_eq_true rfl, Nat.le_of_ble_eq_true rfl⟩
    · exact ⟨by dsimp only [rmm]; omega, by dsimp only [rmm]; omega⟩
    rintro r I1 ⟨rfl, rfl⟩
    refine V_iret X dX9_read_38 ?_ ?_ ?_ ?_
    · exact rfl
    · dsimp only [rmm]; omega
    · dsimp only [rmm]; omega
    refine ⟨?_, ?_⟩ <;> rw [op_read, if_pos c_7, if_neg h_19]
  refine V_iload_n X dX9_read_10 rfl ?_
  refine V_goto X dX9_read_11 28 (by decide) ?_
  refine V_istore_n X dX9_read_28 (by decide) rfl ?_
  refine V_iload_n X dX9_read_29 rfl ?_
  refine V_if_ge X dX9_read_30 39 (by decide) (fun c_30 => ?_) (fun c_30 => ?_)
  · exact absurd c_30 c_7
  refine V_aload_n X dX9_read_33 rfl rfl ?_
  refine V_iload_n X dX9_read_34 rfl ?_
  apply V_callV1 X dX9_read_35 mk_X9_175 iv_X9_refuse (c_refuse9 l (x := lackS S s) (lackS_in c_7))
  · first | assumption | exact hu_s | exact (hu_n (by first | exact kd_nk (by decide) | exact kd_ni (by omega) | exact kd_ng (by omega) | assumption | exact Ne.symm (by assumption))).trans (by first | assumption | exact hu_s | exact (hu_n (by first | exact kd_nk (by decide) | exact kd_ni (by omega) | exact kd_ng (by omega) | assumption | exact Ne.symm (by assumption))).trans (by first | assumption | exact hu_s | exact (hu_n (by first | exact kd_nk (by decide) | exact kd_ni (by omega) | exact kd_ng (by omega) | assumption | exact Ne.symm (by assumption))).trans (by first | assumption | exact hu_s)))
  · exact rfl
  · exact Nat.le_of_ble_eq_true rfl
  · exact ⟨Nat.le_of_ble_eq_true rfl, Nat.le_of_ble_eq_true rfl⟩
  · exact ⟨by dsimp only [rmm]; omega, by dsimp only [rmm]; omega⟩
  rintro r I1 ⟨rfl, rfl⟩
  refine V_iret X dX9_read_38 ?_ ?_ ?_ ?_
  · exact rfl
  · dsimp only [rmm]; omega
  · dsimp only [rmm]; omega
  refine ⟨?_, ?_⟩ <;> rw [op_read, if_neg c_7]
set_option maxRecDepth 100000 in
set_option maxHeartbeats 4000000 in
theorem m_write (l : Launch) {S : St} {J : aH} {s n : Int32} {v : Int64} (h1 : ct S 1 40) (h8 : ct S 8 12) : AM l yX9_write cX9_write 6 (some .int) (rmm 3 0 0 70) [.ref mO, .int s, .int n, .long v] (ovl S J) (fun r I' => r = some (.int (op_write S s n v).2) ∧ I' = ovl (op_write S s n v).1 J) := by
  refine AM_of RX9 (by decide) rfl [some (.ref mO), some (.int s), some (.int n), some (.long v), none, none] rfl (Nat.le_of_ble_eq_true rfl) (fun Z X hNm => ?_)
  refine V_aload_n X dX9_write_0 rfl rfl ?_
  refine V_iload_n X dX9_write_1 rfl ?_
  apply V_callV1 X dX9_write_2 mk_X9_260 iv_X9_lacks (c_lacks l h8)
  · first | assumption | exact hu_s | exact (hu_n (by first | exact kd_nk (by decide) | exact kd_ni (by omega) | exact kd_ng (by omega) | assumption | exact Ne.symm (by assumption))).trans (by first | assumption | exact hu_s | exact (hu_n (by first | exact kd_nk (by decide) | exact kd_ni (by omega) | exact kd_ng (by omega) | assumption | exact Ne.symm (by assumption))).trans (by first | assumption | exact hu_s | exact (hu_n (by first | exact kd_nk (by decide) | exact kd_ni (by omega) | exact kd_ng (by omega) | assumption | exact Ne.symm (by assumption))).trans (by first | assumption | exact hu_s)))
  · exact rfl
  · exact Nat.le_of_ble_eq_true rfl
  · exact ⟨Nat.le_of_ble_eq_true rfl, Nat.le_of_ble_eq_true rfl⟩
  · exact ⟨by dsimp only [rmm]; omega, by dsimp only [rmm]; omega⟩
  rintro r I1 ⟨rfl, rfl⟩
  refine V_istore X dX9_write_5 (by decide) rfl ?_
  refine V_iload X dX9_write_7 rfl ?_
  refine V_if_ge X dX9_write_9 17 (by decide) (fun c_9 => ?_) (fun c_9 => ?_)
  · refine V_aload_n X dX9_write_17 rfl rfl ?_
    refine V_iload_n X dX9_write_18 rfl ?_
    apply V_callV1 X dX9_write_19 mk_X9_183 iv_X9_isNode (c_isNode9 l (ct_ent h1 (by decide)))
    · first | assumption | exact hu_s | exact (hu_n (by first | exact kd_nk (by decide) | exact kd_ni (by omega) | exact kd_ng (by omega) | assumption | exact Ne.symm (by assumption))).trans (by first | assumption | exact hu_s | exact (hu_n (by first | exact kd_nk (by decide) | exact kd_ni (by omega) | exact kd_ng (by omega) | assumption | exact Ne.symm (by assumption))).trans (by first | assumption | exact hu_s | exact (hu_n (by first | exact kd_nk (by decide) | exact kd_ni (by omega) | exact kd_ng (by omega) | assumption | exact Ne.symm (by assumption))).trans (by first | assumption | exact hu_s)))
    · exact rfl
    · exact Nat.le_of_ble_eq_true rfl
    · exact ⟨Nat.le_of_ble_eq_true rfl, Nat.le_of_ble_eq_true rfl⟩
    · exact ⟨by dsimp only [rmm]; omega, by dsimp only [rmm]; omega⟩
    rintro r I1 ⟨rfl, rfl⟩
    refine V_if_eq X dX9_write_22 35 (by decide) (fun c_22 => ?_) (fun c_22 => ?_)
    · have h_22 := bz_f c_22
      refine V_bipush (v := (-4)) X dX9_write_35 (by decide) ?_
      refine V_goto X dX9_write_37 41 (by decide) ?_
      refine V_istore X dX9_write_41 (by decide) rfl ?_
      refine V_iload X dX9_write_43 rfl ?_
      refine V_if_ge X dX9_write_45 55 (by decide) (fun c_45 => ?_) (fun c_45 => ?_)
      · exact absurd c_45 (by decide)
      refine V_aload_n X dX9_write_48 rfl rfl ?_
      refine V_iload X dX9_write_49 rfl ?_
      apply V_callV1 X dX9_write_51 mk_X9_175 iv_X9_refuse (c_refuse9 l (x := -4) (by unfold vp_in; decide))
      · first | assumption | exact hu_s | exact (hu_n (by first | exact kd_nk (by decide) | exact kd_ni (by omega) | exact kd_ng (by omega) | assumption | exact Ne.symm (by assumption))).trans (by first | assumption | exact hu_s | exact (hu_n (by first | exact kd_nk (by decide) | exact kd_ni (by omega) | exact kd_ng (by omega) | assumption | exact Ne.symm (by assumption))).trans (by first | assumption | exact hu_s | exact (hu_n (by first | exact kd_nk (by decide) | exact kd_ni (by omega) | exact kd_ng (by omega) | assumption | exact Ne.symm (by assumption))).trans (by first | assumption | exact hu_s)))
      · exact rfl
      · exact Nat.le_of_ble_eq_true rfl
      · exact ⟨Nat.le_of_ble_eq_true rfl, Nat.le_of_ble_eq_true rfl⟩
      · exact ⟨by dsimp only [rmm]; omega, by dsimp only [rmm]; omega⟩
      rintro r I1 ⟨rfl, rfl⟩
      refine V_iret X dX9_write_54 ?_ ?_ ?_ ?_
      · exact rfl
      · dsimp only [rmm]; omega
      · dsimp only [rmm]; omega
      refine ⟨?_, ?_⟩ <;> rw [op_write, if_pos c_9, if_neg h_22]
    have h_22 := bz_t c_22
    refine V_aload_n X dX9_write_25 rfl rfl ?_
    refine M_geta X dX9_write_26 fk_X9_7 (by decide) rfl ?_
    refine V_iload_n X dX9_write_29 rfl ?_
    refine M_iald X dX9_write_30 (by decide) rfl (nod_in (ct_ent h1 (by decide)) h_22) ?_
    refine V_iconst (v := 2) X dX9_write_31 (by decide) ?_
    refine V_icmp_eq X dX9_write_32 40 (by decide) (fun c_32 => ?_) (fun c_32 => ?_)
    · refine V_iconst (v := 0) X dX9_write_40 (by decide) ?_
      refine V_istore X dX9_write_41 (by decide) rfl ?_
      refine V_iload X dX9_write_43 rfl ?_
      refine V_if_ge X dX9_write_45 55 (by decide) (fun c_45 => ?_) (fun c_45 => ?_)
      · refine V_aload_n X dX9_write_55 rfl rfl ?_
        refine M_geta X dX9_write_56 fk_X9_13 (by decide) rfl ?_
        refine V_iload_n X dX9_write_59 rfl ?_
        refine V_lload_n X dX9_write_60 rfl ?_
        refine M_last X dX9_write_61 (by decide) rfl (nod_in (ct_ent h1 (by decide)) h_22) ?_
        refine V_iconst (v := 1) X dX9_write_62 (by decide) ?_
        refine V_iret X dX9_write_63 ?_ ?_ ?_ ?_
        · exact rfl
        · dsimp only [rmm]; omega
        · dsimp only [rmm]; omega
        refine ⟨?_, ?_⟩ <;> rw [op_write, if_pos c_9, if_pos h_22, if_pos c_32]
      · exact absurd c_45 (by decide)
    refine V_bipush (v := (-4)) X dX9_write_35 (by decide) ?_
    refine V_goto X dX9_write_37 41 (by decide) ?_
    refine V_istore X dX9_write_41 (by decide) rfl ?_
    refine V_iload X dX9_write_43 rfl ?_
    refine V_if_ge X dX9_write_45 55 (by decide) (fun c_45 => ?_) (fun c_45 => ?_)
    · exact absurd c_45 (by decide)
    refine V_aload_n X dX9_write_48 rfl rfl ?_
    refine V_iload X dX9_write_49 rfl ?_
    apply V_callV1 X dX9_write_51 mk_X9_175 iv_X9_refuse (c_refuse9 l (x := -4) (by unfold vp_in; decide))
    · first | assumption | exact hu_s | exact (hu_n (by first | exact kd_nk (by decide) | exact kd_ni (by omega) | exact kd_ng (by omega) | assumption | exact Ne.symm (by assumption))).trans (by first | assumption | exact hu_s | exact (hu_n (by first | exact kd_nk (by decide) | exact kd_ni (by omega) | exact kd_ng (by omega) | assumption | exact Ne.symm (by assumption))).trans (by first | assumption | exact hu_s | exact (hu_n (by first | exact kd_nk (by decide) | exact kd_ni (by omega) | exact kd_ng (by omega) | assumption | exact Ne.symm (by assumption))).trans (by first | assumption | exact hu_s)))
    · exact rfl
    · exact Nat.le_of_ble_eq_true rfl
    · exact ⟨Nat.le_of_ble_eq_true rfl, Nat.le_of_ble_eq_true rfl⟩
    · exact ⟨by dsimp only [rmm]; omega, by dsimp only [rmm]; omega⟩
    rintro r I1 ⟨rfl, rfl⟩
    refine V_iret X dX9_write_54 ?_ ?_ ?_ ?_
    · exact rfl
    · dsimp only [rmm]; omega
    · dsimp only [rmm]; omega
    refine ⟨?_, ?_⟩ <;> rw [op_write, if_pos c_9, if_pos h_22, if_neg c_32]
  refine V_iload X dX9_write_12 rfl ?_
  refine V_goto X dX9_write_14 41 (by decide) ?_
  refine V_istore X dX9_write_41 (by decide) rfl ?_
  refine V_iload X dX9_write_43 rfl ?_
  refine V_if_ge X dX9_write_45 55 (by decide) (fun c_45 => ?_) (fun c_45 => ?_)
  · exact absurd c_45 c_9
  refine V_aload_n X dX9_write_48 rfl rfl ?_
  refine V_iload X dX9_write_49 rfl ?_
  apply V_callV1 X dX9_write_51 mk_X9_175 iv_X9_refuse (c_refuse9 l (x := lackS S s) (lackS_in c_9))
  · first | assumption | exact hu_s | exact (hu_n (by first | exact kd_nk (by decide) | exact kd_ni (by omega) | exact kd_ng (by omega) | assumption | exact Ne.symm (by assumption))).trans (by first | assumption | exact hu_s | exact (hu_n (by first | exact kd_nk (by decide) | exact kd_ni (by omega) | exact kd_ng (by omega) | assumption | exact Ne.symm (by assumption))).trans (by first | assumption | exact hu_s | exact (hu_n (by first | exact kd_nk (by decide) | exact kd_ni (by omega) | exact kd_ng (by omega) | assumption | exact Ne.symm (by assumption))).trans (by first | assumption | exact hu_s)))
  · exact rfl
  · exact Nat.le_of_ble_eq_true rfl
  · exact ⟨Nat.le_of_ble_eq_true rfl, Nat.le_of_ble_eq_true rfl⟩
  · exact ⟨by dsimp only [rmm]; omega, by dsimp only [rmm]; omega⟩
  rintro r I1 ⟨rfl, rfl⟩
  refine V_iret X dX9_write_54 ?_ ?_ ?_ ?_
  · exact rfl
  · dsimp only [rmm]; omega
  · dsimp only [rmm]; omega
  refine ⟨?_, ?_⟩ <;> rw [op_write, if_neg c_9]
set_option maxRecDepth 100000 in
set_option maxHeartbeats 4000000 in
theorem m_value (l : Launch) {S : St} {J : aH} : AM l yX9_value cX9_value 1 (some .long) (rmm 0 0 0 0) [.ref mO] (ovl S J) (fun r I' => r = some (.long (S.2 59 0)) ∧ I' = ovl S J) := by
  refine AM_of RX9 (by decide) rfl [some (.ref mO)] rfl (Nat.le_of_ble_eq_true rfl) (fun Z X hNm => ?_)
  refine V_aload_n X dX9_value_0 rfl rfl ?_
  refine M_getl X dX9_value_1 fk_X9_263 (by decide) rfl ?_
  refine V_lret X dX9_value_4 ?_ ?_ ?_
  · dsimp only [rmm]; omega
  · dsimp only [rmm]; omega
  exact ⟨rfl, rfl⟩
set_option maxRecDepth 100000 in
set_option maxHeartbeats 4000000 in
theorem m_acked (l : Launch) {S : St} {J : aH} : AM l yX9_acknowledged cX9_acknowledged 1 (some .int) (rmm 0 0 0 0) [.ref mO] (ovl S J) (fun r I' => r = some (.int (S.1 60 0)) ∧ I' = ovl S J) := by
  refine AM_of RX9 (by decide) rfl [some (.ref mO)] rfl (Nat.le_of_ble_eq_true rfl) (fun Z X hNm => ?_)
  refine V_aload_n X dX9_acknowledged_0 rfl rfl ?_
  refine M_geti X dX9_acknowledged_1 fk_X9_299 (by decide) rfl ?_
  refine V_iret X dX9_acknowledged_4 ?_ ?_ ?_ ?_
  · exact rfl
  · dsimp only [rmm]; omega
  · dsimp only [rmm]; omega
  exact ⟨rfl, rfl⟩
