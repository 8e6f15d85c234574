/-! what each call does: 2 (subscriptions), and the reads without loops -/
abbrev isSub (S : St) (b : Int32) : Prop := ¬ b < 0 ∧ b < S.1 15 0
abbrev okB (S : St) (s b : Int32) : Prop := (isSub S b ∧ ¬ S.1 16 (nn b) = 0) ∧ S.1 17 (nn b) = s
def lkB (S : St) (s b : Int32) : Int32 := if 0 ≤ lackS S s then (if okB (entS S s) s b then 0 else -5) else lackS S s
abbrev areR (p k l m : Int32) : Prop := (1 ≤ p ∧ p ≤ 100) ∧ (1 ≤ k ∧ k ≤ 20) ∧ (3 ≤ l ∧ l ≤ 100) ∧ (0 ≤ m ∧ m ≤ 10)
def setS (S : St) (b p k l m : Int32) : St := pa (pa (pa (pa (pa (pa (pa S 18 (nn b) (S.1 0 0)) 19 (nn b) p) 20 (nn b) k) 21 (nn b) l) 22 (nn b) m) 25 (nn b) k) 26 (nn b) l
theorem lkB_in {S : St} {s b : Int32} (h : ¬ 0 ≤ lkB S s b) : vp_in (-lkB S s b) 10 := by
  unfold lkB at h ⊢
  split at h
  · rename_i h0
    rw [if_pos h0]
    split at h
    · exact absurd (by decide) h
    · rename_i h1
      rw [if_neg h1]
      unfold vp_in
      decide
  · rename_i h0
    rw [if_neg h0]
    exact lackS_in h0
theorem lkB_ok {S : St} {s b : Int32} (h : 0 ≤ lkB S s b) : 0 ≤ lackS S s ∧ okB (entS S s) s b := by
  unfold lkB at h
  split at h
  · rename_i h0
    split at h
    · rename_i h1
      exact ⟨h0, h1⟩
    · exact absurd h (by decide)
  · rename_i h0
    exact absurd h h0
theorem sub_in {S : St} {b : Int32} (h : ct S 15 20) (hb : isSub S b) : vp_in b 20 := by
  obtain ⟨N, h1, h2⟩ := h
  exact in_lt hb.1 (h2 ▸ hb.2) h1 (by decide)
def op_subscribe (S : St) (s p k l m : Int32) : St × Int32 := let S1 := entS S s; if 0 ≤ lackS S s then (if areR p k l m then (if S1.1 15 0 = 20 then rr S1 (-8) else (let b := S1.1 15 0; let S2 := pa S1 15 0 (S1.1 15 0 + 1); (setS (pa (pa (pa (pa S2 16 (nn b) 1) 17 (nn b) s) 23 (nn b) 1) 24 (nn b) 1) b p k l m, b))) else rr S1 (-7)) else rr S1 (lackS S s)
def op_modify (S : St) (s b p k l m : Int32) : St × Int32 := let S1 := entS S s; if 0 ≤ lkB S s b then (if areR p k l m then (setS S1 b p k l m, 1) else rr S1 (-7)) else rr S1 (lkB S s b)
def op_turn (S : St) (s b on : Int32) : St × Int32 := let S1 := entS S s; if 0 ≤ lkB S s b then (let S2 := pa S1 23 (nn b) on; (pa S2 26 (nn b) (S2.1 21 (nn b)), if S1.1 23 (nn b) = on then 0 else 1)) else rr S1 (lkB S s b)
def op_transfer (S : St) (s b : Int32) : St × Int32 := let S1 := entS S s; if 0 ≤ lackS S s then (if isSub S1 b ∧ ¬ S1.1 16 (nn b) = 0 then (let S2 := pa S1 17 (nn b) s; (pa S2 26 (nn b) (S2.1 21 (nn b)), if S1.1 17 (nn b) = s then 0 else 1)) else rr S1 (-5)) else rr S1 (lackS S s)
def q_mail (S : St) (s i : Int32) : Int32 := if isSes S s then (if ¬ i < 0 ∧ i < S.1 13 (nn s) then S.1 14 (nn (1200 * s + i)) else -9) else -1
abbrev isMs (S : St) (m : Int32) : Prop := ¬ m < 0 ∧ m < S.1 48 0
def q_message (S : St) (m x : Int32) : Int32 := if isMs S m then (if x = 0 then S.1 49 (nn m) else if x = 1 then S.1 50 (nn m) else if x = 2 then S.1 51 (nn m) else if x = 3 then (if S.1 52 (nn m) = 0 then 0 else 1) else if x = 4 then S.1 53 (nn m) else if x = 5 then (if S.1 54 (nn m) = 0 then 0 else 1) else -9) else -9
def q_entry (S : St) (m i x : Int32) : Int64 := if isMs S m then (if ¬ i < 0 ∧ i < S.1 51 (nn m) then (if x = 0 then S.2 55 (nn (40 * m + i)) else if x = 1 then (S.1 56 (nn (40 * m + i))).toInt64 else if x = 2 then (S.1 57 (nn (40 * m + i))).toInt64 else if x = 3 then (S.1 58 (nn (40 * m + i))).toInt64 else -9) else -9) else -9
abbrev isIt (S : St) (i : Int32) : Prop := ¬ i < 0 ∧ i < S.1 32 0
def q_itemOf (S : St) (i x : Int32) : Int32 := if isIt S i then (if S.1 33 (nn i) = 0 then -9 else if x = 0 then S.1 34 (nn i) else if x = 1 then S.1 35 (nn i) else if x = 2 then S.1 40 (nn i) else if x = 3 then S.1 44 (nn i) else if x = 4 then (if S.1 44 (nn i) ≤ 0 then 0 else S.1 47 (nn (8 * i))) else -9) else -9
theorem it_in {S : St} {b : Int32} (h : ct S 32 60) (hb : isIt S b) : vp_in b 60 := by
  obtain ⟨N, h1, h2⟩ := h
  exact in_lt hb.1 (h2 ▸ hb.2) h1 (by decide)
theorem ms_in {S : St} {b : Int32} (h : ct S 48 900) (hb : isMs S b) : vp_in b 900 := by
  obtain ⟨N, h1, h2⟩ := h
  exact in_lt hb.1 (h2 ▸ hb.2) h1 (by decide)
/-- a place c * a + b of a table -/
theorem cell_eq {c a b : Nat} : nI c * nI a + nI b = nI (c * a + b) := by rw [pk_mul, nI_add]
theorem lt_of_in {x : Int32} {n : Nat} (h : vp_in x n) (hn : n < 2 ^ 31) : ∃ j, j < n ∧ x = nI j := vp_in_of h hn
theorem ix_of {x : Int32} {N : Nat} (h0 : ¬ x < 0) (h : x < nI N) (hN : N < 2 ^ 31) : ∃ j, j < N ∧ x = nI j := vp_in_of (in_lt h0 h (Nat.le_refl N) hN) hN
set_option maxRecDepth 100000 in
set_option maxHeartbeats 4000000 in
theorem c_areR (l : Launch) {I : aH} {p k m1 m : Int32} : AM l yX9_areRight cX9_areRight 4 (some .boolean) (rmm 1 0 0 25) [.int p, .int k, .int m1, .int m] I (fun r I' => r = some (.int (if areR p k m1 m then 1 else 0)) ∧ I' = I) := by
  refine AM_of RX9 (by decide) rfl [some (.int p), some (.int k), some (.int m1), some (.int m)] rfl (Nat.le_of_ble_eq_true rfl) (fun Z X hNm => ?_)
  refine V_iload_n X dX9_areRight_0 rfl ?_
  refine V_i2l X dX9_areRight_1 ?_
  refine V_lconst (v := 1) X dX9_areRight_2 (by decide) ?_
  refine V_ldc2 X dX9_areRight_3 kc_X9_267 ?_
  refine V_callS3 X dX9_areRight_6 mk_X9_171 st_X9_in (c_inI l (x := p) (lo := 1) (hi := 100) rfl rfl) (Nat.le_of_ble_eq_true rfl) ⟨Nat.le_of_ble_eq_true rfl, Nat.le_of_ble_eq_true rfl⟩ ?_ ?_
  · exact ⟨by dsimp only [rmm]; omega, by dsimp only [rmm]; omega⟩
  rintro r I1 ⟨rfl, rfl⟩
  refine V_if_eq X dX9_areRight_9 54 (by decide) (fun c_9 => ?_) (fun c_9 => ?_)
  · have h_9 := bz_f c_9
    have hz : ¬ areR p k m1 m := fun q => h_9 q.1
    refine V_iconst (v := 0) X dX9_areRight_54 (by decide) ?_
    refine V_iret X dX9_areRight_55 ?_ ?_ ?_ ?_
    · exact rfl
    · dsimp only [rmm]; omega
    · dsimp only [rmm]; omega
    first | exact ⟨by rw [if_neg hz], rfl⟩ | exact ⟨by rw [if_pos hz], rfl⟩
  have h_9 := bz_t c_9
  refine V_iload_n X dX9_areRight_12 rfl ?_
  refine V_i2l X dX9_areRight_13 ?_
  refine V_lconst (v := 1) X dX9_areRight_14 (by decide) ?_
  refine V_ldc2 X dX9_areRight_15 kc_X9_269 ?_
  refine V_callS3 X dX9_areRight_18 mk_X9_171 st_X9_in (c_inI l (x := k) (lo := 1) (hi := 20) rfl rfl) (Nat.le_of_ble_eq_true rfl) ⟨Nat.le_of_ble_eq_true rfl, Nat.le_of_ble_eq_true rfl⟩ ?_ ?_
  · exact ⟨by dsimp only [rmm]; omega, by dsimp only [rmm]; omega⟩
  rintro r I1 ⟨rfl, rfl⟩
  refine V_if_eq X dX9_areRight_21 54 (by decide) (fun c_21 => ?_) (fun c_21 => ?_)
  · have h_21 := bz_f c_21
    have hz : ¬ areR p k m1 m := fun q => h_21 q.2.1
    refine V_iconst (v := 0) X dX9_areRight_54 (by decide) ?_
    refine V_iret X dX9_areRight_55 ?_ ?_ ?_ ?_
    · exact rfl
    · dsimp only [rmm]; omega
    · dsimp only [rmm]; omega
    first | exact ⟨by rw [if_neg hz], rfl⟩ | exact ⟨by rw [if_pos hz], rfl⟩
  have h_21 := bz_t c_21
  refine V_iload_n X dX9_areRight_24 rfl ?_
  refine V_i2l X dX9_areRight_25 ?_
  refine V_ldc2 X dX9_areRight_26 kc_X9_271 ?_
  refine V_ldc2 X dX9_areRight_29 kc_X9_267 ?_
  refine V_callS3 X dX9_areRight_32 mk_X9_171 st_X9_in (c_inI l (x := m1) (lo := 3) (hi := 100) rfl rfl) (Nat.le_of_ble_eq_true rfl) ⟨Nat.le_of_ble_eq_true rfl, Nat.le_of_ble_eq_true rfl⟩ ?_ ?_
  · exact ⟨by dsimp only [rmm]; omega, by dsimp only [rmm]; omega⟩
  rintro r I1 ⟨rfl, rfl⟩
  refine V_if_eq X dX9_areRight_35 54 (by decide) (fun c_35 => ?_) (fun c_35 => ?_)
  · have h_35 := bz_f c_35
    have hz : ¬ areR p k m1 m := fun q => h_35 q.2.2.1
    refine V_iconst (v := 0) X dX9_areRight_54 (by decide) ?_
    refine V_iret X dX9_areRight_55 ?_ ?_ ?_ ?_
    · exact rfl
    · dsimp only [rmm]; omega
    · dsimp only [rmm]; omega
    first | exact ⟨by rw [if_neg hz], rfl⟩ | exact ⟨by rw [if_pos hz], rfl⟩
  have h_35 := bz_t c_35
  refine V_iload_n X dX9_areRight_38 rfl ?_
  refine V_i2l X dX9_areRight_39 ?_
  refine V_lconst (v := 0) X dX9_areRight_40 (by decide) ?_
  refine V_ldc2 X dX9_areRight_41 kc_X9_273 ?_
  refine V_callS3 X dX9_areRight_44 mk_X9_171 st_X9_in (c_inI l (x := m) (lo := 0) (hi := 10) rfl rfl) (Nat.le_of_ble_eq_true rfl) ⟨Nat.le_of_ble_eq_true rfl, Nat.le_of_ble_eq_true rfl⟩ ?_ ?_
  · exact ⟨by dsimp only [rmm]; omega, by dsimp only [rmm]; omega⟩
  rintro r I1 ⟨rfl, rfl⟩
  refine V_if_eq X dX9_areRight_47 54 (by decide) (fun c_47 => ?_) (fun c_47 => ?_)
  · have h_47 := bz_f c_47
    have hz : ¬ areR p k m1 m := fun q => h_47 q.2.2.2
    refine V_iconst (v := 0) X dX9_areRight_54 (by decide) ?_
    refine V_iret X dX9_areRight_55 ?_ ?_ ?_ ?_
    · exact rfl
    · dsimp only [rmm]; omega
    · dsimp only [rmm]; omega
    first | exact ⟨by rw [if_neg hz], rfl⟩ | exact ⟨by rw [if_pos hz], rfl⟩
  have h_47 := bz_t c_47
  have hz : areR p k m1 m := ⟨h_9, h_21, h_35, h_47⟩
  refine V_iconst (v := 1) X dX9_areRight_50 (by decide) ?_
  refine V_goto X dX9_areRight_51 55 (by decide) ?_
  refine V_iret X dX9_areRight_55 ?_ ?_ ?_ ?_
  · exact rfl
  · dsimp only [rmm]; omega
  · dsimp only [rmm]; omega
  first | exact ⟨by rw [if_neg hz], rfl⟩ | exact ⟨by rw [if_pos hz], rfl⟩
set_option maxRecDepth 100000 in
set_option maxHeartbeats 4000000 in
theorem c_set9 (l : Launch) {S : St} {J : aH} {b p k m1 m : Int32} (hb : vp_in b 20) : AM l yX9_set cX9_set 6 none (rmm 0 0 0 0) [.ref mO, .int b, .int p, .int k, .int m1, .int m] (ovl S J) (fun r I' => r = none ∧ I' = ovl (setS S b p k m1 m) J) := by
  refine AM_of RX9 (by decide) rfl [some (.ref mO), some (.int b), some (.int p), some (.int k), some (.int m1), some (.int m)] rfl (Nat.le_of_ble_eq_true rfl) (fun Z X hNm => ?_)
  refine V_aload_n X dX9_set_0 rfl rfl ?_
  refine M_geta X dX9_set_1 fk_X9_51 (by decide) rfl ?_
  refine V_iload_n X dX9_set_4 rfl ?_
  refine V_aload_n X dX9_set_5 rfl rfl ?_
  refine M_geti X dX9_set_6 fk_X9_199 (by decide) rfl ?_
  refine M_iast X dX9_set_9 (by decide) rfl (hb) ?_
  refine V_aload_n X dX9_set_10 rfl rfl ?_
  refine M_geta X dX9_set_11 fk_X9_54 (by decide) rfl ?_
  refine V_iload_n X dX9_set_14 rfl ?_
  refine V_iload_n X dX9_set_15 rfl ?_
  refine M_iast X dX9_set_16 (by decide) rfl (hb) ?_
  refine V_aload_n X dX9_set_17 rfl rfl ?_
  refine M_geta X dX9_set_18 fk_X9_57 (by decide) rfl ?_
  refine V_iload_n X dX9_set_21 rfl ?_
  refine V_iload_n X dX9_set_22 rfl ?_
  refine M_iast X dX9_set_23 (by decide) rfl (hb) ?_
  refine V_aload_n X dX9_set_24 rfl rfl ?_
  refine M_geta X dX9_set_25 fk_X9_60 (by decide) rfl ?_
  refine V_iload_n X dX9_set_28 rfl ?_
  refine V_iload X dX9_set_29 rfl ?_
  refine M_iast X dX9_set_31 (by decide) rfl (hb) ?_
  refine V_aload_n X dX9_set_32 rfl rfl ?_
  refine M_geta X dX9_set_33 fk_X9_63 (by decide) rfl ?_
  refine V_iload_n X dX9_set_36 rfl ?_
  refine V_iload X dX9_set_37 rfl ?_
  refine M_iast X dX9_set_39 (by decide) rfl (hb) ?_
  refine V_aload_n X dX9_set_40 rfl rfl ?_
  refine M_geta X dX9_set_41 fk_X9_72 (by decide) rfl ?_
  refine V_iload_n X dX9_set_44 rfl ?_
  refine V_iload_n X dX9_set_45 rfl ?_
  refine M_iast X dX9_set_46 (by decide) rfl (hb) ?_
  refine V_aload_n X dX9_set_47 rfl rfl ?_
  refine M_geta X dX9_set_48 fk_X9_75 (by decide) rfl ?_
  refine V_iload_n X dX9_set_51 rfl ?_
  refine V_iload X dX9_set_52 rfl ?_
  refine M_iast X dX9_set_54 (by decide) rfl (hb) ?_
  refine V_vret X dX9_set_55 ?_ ?_ ?_
  · dsimp only [rmm]; omega
  · dsimp only [rmm]; omega
  exact ⟨rfl, rfl⟩
set_option maxRecDepth 100000 in
set_option maxHeartbeats 4000000 in
theorem m_subscribe (l : Launch) {S : St} {J : aH} {s p k m1 m : Int32} (h8 : ct S 8 12) (h15 : ct S 15 20) : AM l yX9_subscribe cX9_subscribe 8 (some .int) (rmm 2 0 0 50) [.ref mO, .int s, .int p, .int k, .int m1, .int m] (ovl S J) (fun r I' => r = some (.int (op_subscribe S s p k m1 m).2) ∧ I' = ovl (op_subscribe S s p k m1 m).1 J) := by
  refine AM_of RX9 (by decide) rfl [some (.ref mO), some (.int s), some (.int p), some (.int k), some (.int m1), some (.int m), none, none] rfl (Nat.le_of_ble_eq_true rfl) (fun Z X hNm => ?_)
  refine V_aload_n X dX9_subscribe_0 rfl rfl ?_
  refine V_iload_n X dX9_subscribe_1 rfl ?_
  apply V_callV1 X dX9_subscribe_2 mk_X9_260 iv_X9_lacks (c_lacks l h8)
  · first | assumption | exact hu_s | exact (hu_n (by first | exact kd_nk (by decide) | exact kd_ni (by omega) | exact kd_ng (by omega) | assumption | exact Ne.symm (by assumption))).trans (by first | assumption | exact hu_s | exact (hu_n (by first | exact kd_nk (by decide) | exact kd_ni (by omega) | exact kd_ng (by omega) | assumption | exact Ne.symm (by assumption))).trans (by first | assumption | exact hu_s | exact (hu_n (by first | exact kd_nk (by decide) | exact kd_ni (by omega) | exact kd_ng (by omega) | assumption | exact Ne.symm (by assumption))).trans (by first | assumption | exact hu_s)))
  · exact rfl
  · exact Nat.le_of_ble_eq_true rfl
  · exact ⟨Nat.le_of_ble_eq_true rfl, Nat.le_of_ble_eq_true rfl⟩
  · exact ⟨by dsimp only [rmm]; omega, by dsimp only [rmm]; omega⟩
  rintro r I1 ⟨rfl, rfl⟩
  refine V_istore X dX9_subscribe_5 (by decide) rfl ?_
  refine V_iload X dX9_subscribe_7 rfl ?_
  refine V_if_ge X dX9_subscribe_9 17 (by decide) (fun c_9 => ?_) (fun c_9 => ?_)
  · refine V_iload_n X dX9_subscribe_17 rfl ?_
    refine V_iload_n X dX9_subscribe_18 rfl ?_
    refine V_iload X dX9_subscribe_19 rfl ?_
    refine V_iload X dX9_subscribe_21 rfl ?_
    refine V_callS4 X dX9_subscribe_23 mk_X9_275 st_X9_areRight (c_areR l) (Nat.le_of_ble_eq_true rfl) ⟨Nat.le_of_ble_eq_true rfl, Nat.le_of_ble_eq_true rfl⟩ ?_ ?_
    · exact ⟨by dsimp only [rmm]; omega, by dsimp only [rmm]; omega⟩
    rintro r I1 ⟨rfl, rfl⟩
    refine V_if_ne X dX9_subscribe_26 34 (by decide) (fun c_26 => ?_) (fun c_26 => ?_)
    · have h_26 := bz_t c_26
      refine V_aload_n X dX9_subscribe_34 rfl rfl ?_
      refine M_geti X dX9_subscribe_35 fk_X9_224 (by decide) rfl ?_
      refine V_bipush (v := 20) X dX9_subscribe_38 (by decide) ?_
      refine V_icmp_ne X dX9_subscribe_40 48 (by decide) (fun c_40 => ?_) (fun c_40 => ?_)
      · refine V_iconst (v := 0) X dX9_subscribe_48 (by decide) ?_
        refine V_istore X dX9_subscribe_49 (by decide) rfl ?_
        refine V_iload X dX9_subscribe_51 rfl ?_
        refine V_if_ge X dX9_subscribe_53 63 (by decide) (fun c_53 => ?_) (fun c_53 => ?_)
        · refine V_aload_n X dX9_subscribe_63 rfl rfl ?_
          refine M_geti X dX9_subscribe_64 fk_X9_224 (by decide) rfl ?_
          refine V_istore X dX9_subscribe_67 (by decide) rfl ?_
          refine V_aload_n X dX9_subscribe_69 rfl rfl ?_
          refine V_dup X dX9_subscribe_70 rfl ?_
          refine M_geti X dX9_subscribe_71 fk_X9_224 (by decide) rfl ?_
          refine V_iconst (v := 1) X dX9_subscribe_74 (by decide) ?_
          refine V_iadd X dX9_subscribe_75 ?_
          refine M_put X dX9_subscribe_76 fk_X9_224 (by decide) rfl ?_
          refine V_aload_n X dX9_subscribe_79 rfl rfl ?_
          refine M_geta X dX9_subscribe_80 fk_X9_44 (by decide) rfl ?_
          refine V_iload X dX9_subscribe_83 rfl ?_
          refine V_iconst (v := 1) X dX9_subscribe_85 (by decide) ?_
          refine M_zast X dX9_subscribe_86 (by decide) rfl (ct_ne (ct_ent h15 (by decide)) (by decide) 20 rfl c_40) (rfl) ?_
          refine V_aload_n X dX9_subscribe_87 rfl rfl ?_
          refine M_geta X dX9_subscribe_88 fk_X9_48 (by decide) rfl ?_
          refine V_iload X dX9_subscribe_91 rfl ?_
          refine V_iload_n X dX9_subscribe_93 rfl ?_
          refine M_iast X dX9_subscribe_94 (by decide) rfl (ct_ne (ct_ent h15 (by decide)) (by decide) 20 rfl c_40) ?_
          refine V_aload_n X dX9_subscribe_95 rfl rfl ?_
          refine M_geta X dX9_subscribe_96 fk_X9_66 (by decide) rfl ?_
          refine V_iload X dX9_subscribe_99 rfl ?_
          refine V_iconst (v := 1) X dX9_subscribe_101 (by decide) ?_
          refine M_zast X dX9_subscribe_102 (by decide) rfl (ct_ne (ct_ent h15 (by decide)) (by decide) 20 rfl c_40) (rfl) ?_
          refine V_aload_n X dX9_subscribe_103 rfl rfl ?_
          refine M_geta X dX9_subscribe_104 fk_X9_69 (by decide) rfl ?_
          refine V_iload X dX9_subscribe_107 rfl ?_
          refine V_iconst (v := 1) X dX9_subscribe_109 (by decide) ?_
          refine M_iast X dX9_subscribe_110 (by decide) rfl (ct_ne (ct_ent h15 (by decide)) (by decide) 20 rfl c_40) ?_
          refine V_aload_n X dX9_subscribe_111 rfl rfl ?_
          refine V_iload X dX9_subscribe_112 rfl ?_
          refine V_iload_n X dX9_subscribe_114 rfl ?_
          refine V_iload_n X dX9_subscribe_115 rfl ?_
          refine V_iload X dX9_subscribe_116 rfl ?_
          refine V_iload X dX9_subscribe_118 rfl ?_
          apply V_callV5 X dX9_subscribe_120 mk_X9_279 iv_X9_set (c_set9 l (ct_ne (ct_ent h15 (by decide)) (by decide) 20 rfl c_40))
          · first | assumption | exact hu_s | exact (hu_n (by first | exact kd_nk (by decide) | exact kd_ni (by omega) | exact kd_ng (by omega) | assumption | exact Ne.symm (by assumption))).trans (by first | assumption | exact hu_s | exact (hu_n (by first | exact kd_nk (by decide) | exact kd_ni (by omega) | exact kd_ng (by omega) | assumption | exact Ne.symm (by assumption))).trans (by first | assumption | exact hu_s | exact (hu_n (by first | exact kd_nk (by decide) | exact kd_ni (by omega) | exact kd_ng (by omega) | assumption | exact Ne.symm (by assumption))).trans (by first | assumption | exact hu_s)))
          · exact rfl
          · exact Nat.le_of_ble_eq_true rfl
          · exact ⟨Nat.le_of_ble_eq_true rfl, Nat.le_of_ble_eq_true rfl⟩
          · exact ⟨by dsimp only [rmm]; omega, by dsimp only [rmm]; omega⟩
          rintro r I1 ⟨rfl, rfl⟩
          refine V_iload X dX9_subscribe_123 rfl ?_
          refine V_iret X dX9_subscribe_125 ?_ ?_ ?_ ?_
          · exact rfl
          · dsimp only [rmm]; omega
          · dsimp only [rmm]; omega
          refine ⟨?_, ?_⟩ <;> rw [op_subscribe, if_pos c_9, if_pos h_26, if_neg c_40]
        · exact absurd c_53 (by decide)
      refine V_bipush (v := (-8)) X dX9_subscribe_43 (by decide) ?_
      refine V_goto X dX9_subscribe_45 49 (by decide) ?_
      refine V_istore X dX9_subscribe_49 (by decide) rfl ?_
      refine V_iload X dX9_subscribe_51 rfl ?_
      refine V_if_ge X dX9_subscribe_53 63 (by decide) (fun c_53 => ?_) (fun c_53 => ?_)
      · exact absurd c_53 (by decide)
      refine V_aload_n X dX9_subscribe_56 rfl rfl ?_
      refine V_iload X dX9_subscribe_57 rfl ?_
      apply V_callV1 X dX9_subscribe_59 mk_X9_175 iv_X9_refuse (c_refuse9 l (x := -8) (by unfold vp_in; decide))
      · first | assumption | exact hu_s | exact (hu_n (by first | exact kd_nk (by decide) | exact kd_ni (by omega) | exact kd_ng (by omega) | assumption | exact Ne.symm (by assumption))).trans (by first | assumption | exact hu_s | exact (hu_n (by first | exact kd_nk (by decide) | exact kd_ni (by omega) | exact kd_ng (by omega) | assumption | exact Ne.symm (by assumption))).trans (by first | assumption | exact hu_s | exact (hu_n (by first | exact kd_nk (by decide) | exact kd_ni (by omega) | exact kd_ng (by omega) | assumption | exact Ne.symm (by assumption))).trans (by first | assumption | exact hu_s)))
      · exact rfl
      · exact Nat.le_of_ble_eq_true rfl
      · exact ⟨Nat.le_of_ble_eq_true rfl, Nat.le_of_ble_eq_true rfl⟩
      · exact ⟨by dsimp only [rmm]; omega, by dsimp only [rmm]; omega⟩
      rintro r I1 ⟨rfl, rfl⟩
      refine V_iret X dX9_subscribe_62 ?_ ?_ ?_ ?_
      · exact rfl
      · dsimp only [rmm]; omega
      · dsimp only [rmm]; omega
      refine ⟨?_, ?_⟩ <;> rw [op_subscribe, if_pos c_9, if_pos h_26, if_pos c_40]
    have h_26 := bz_f c_26
    refine V_bipush (v := (-7)) X dX9_subscribe_29 (by decide) ?_
    refine V_goto X dX9_subscribe_31 49 (by decide) ?_
    refine V_istore X dX9_subscribe_49 (by decide) rfl ?_
    refine V_iload X dX9_subscribe_51 rfl ?_
    refine V_if_ge X dX9_subscribe_53 63 (by decide) (fun c_53 => ?_) (fun c_53 => ?_)
    · exact absurd c_53 (by decide)
    refine V_aload_n X dX9_subscribe_56 rfl rfl ?_
    refine V_iload X dX9_subscribe_57 rfl ?_
    apply V_callV1 X dX9_subscribe_59 mk_X9_175 iv_X9_refuse (c_refuse9 l (x := -7) (by unfold vp_in; decide))
    · first | assumption | exact hu_s | exact (hu_n (by first | exact kd_nk (by decide) | exact kd_ni (by omega) | exact kd_ng (by omega) | assumption | exact Ne.symm (by assumption))).trans (by first | assumption | exact hu_s | exact (hu_n (by first | exact kd_nk (by decide) | exact kd_ni (by omega) | exact kd_ng (by omega) | assumption | exact Ne.symm (by assumption))).trans (by first | assumption | exact hu_s | exact (hu_n (by first | exact kd_nk (by decide) | exact kd_ni (by omega) | exact kd_ng (by omega) | assumption | exact Ne.symm (by assumption))).trans (by first | assumption | exact hu_s)))
    · exact rfl
    · exact Nat.le_of_ble_eq_true rfl
    · exact ⟨Nat.le_of_ble_eq_true rfl, Nat.le_of_ble_eq_true rfl⟩
    · exact ⟨by dsimp only [rmm]; omega, by dsimp only [rmm]; omega⟩
    rintro r I1 ⟨rfl, rfl⟩
    refine V_iret X dX9_subscribe_62 ?_ ?_ ?_ ?_
    · exact rfl
    · dsimp only [rmm]; omega
    · dsimp only [rmm]; omega
    refine ⟨?_, ?_⟩ <;> rw [op_subscribe, if_pos c_9, if_neg h_26]
  refine V_iload X dX9_subscribe_12 rfl ?_
  refine V_goto X dX9_subscribe_14 49 (by decide) ?_
  refine V_istore X dX9_subscribe_49 (by decide) rfl ?_
  refine V_iload X dX9_subscribe_51 rfl ?_
  refine V_if_ge X dX9_subscribe_53 63 (by decide) (fun c_53 => ?_) (fun c_53 => ?_)
  · exact absurd c_53 c_9
  refine V_aload_n X dX9_subscribe_56 rfl rfl ?_
  refine V_iload X dX9_subscribe_57 rfl ?_
  apply V_callV1 X dX9_subscribe_59 mk_X9_175 iv_X9_refuse (c_refuse9 l (x := lackS S s) (lackS_in c_9))
  · first | assumption | exact hu_s | exact (hu_n (by first | exact kd_nk (by decide) | exact kd_ni (by omega) | exact kd_ng (by omega) | assumption | exact Ne.symm (by assumption))).trans (by first | assumption | exact hu_s | exact (hu_n (by first | exact kd_nk (by decide) | exact kd_ni (by omega) | exact kd_ng (by omega) | assumption | exact Ne.symm (by assumption))).trans (by first | assumption | exact hu_s | exact (hu_n (by first | exact kd_nk (by decide) | exact kd_ni (by omega) | exact kd_ng (by omega) | assumption | exact Ne.symm (by assumption))).trans (by first | assumption | exact hu_s)))
  · exact rfl
  · exact Nat.le_of_ble_eq_true rfl
  · exact ⟨Nat.le_of_ble_eq_true rfl, Nat.le_of_ble_eq_true rfl⟩
  · exact ⟨by dsimp only [rmm]; omega, by dsimp only [rmm]; omega⟩
  rintro r I1 ⟨rfl, rfl⟩
  refine V_iret X dX9_subscribe_62 ?_ ?_ ?_ ?_
  · exact rfl
  · dsimp only [rmm]; omega
  · dsimp only [rmm]; omega
  refine ⟨?_, ?_⟩ <;> rw [op_subscribe, if_neg c_9]
set_option maxRecDepth 100000 in
set_option maxHeartbeats 4000000 in
theorem c_lacksSub (l : Launch) {S : St} {J : aH} {s b : Int32} (h8 : ct S 8 12) (h15 : ct S 15 20) : AM l yX9_lacksSub cX9_lacksSub 4 (some .int) (rmm 2 0 0 46) [.ref mO, .int s, .int b] (ovl S J) (fun r I' => r = some (.int (lkB S s b)) ∧ I' = ovl (entS S s) J) := by
  obtain ⟨N15, hN15, e15⟩ := ct_ent (s := s) h15 (by decide)
  refine AM_of RX9 (by decide) rfl [some (.ref mO), some (.int s), some (.int b), none] rfl (Nat.le_of_ble_eq_true rfl) (fun Z X hNm => ?_)
  refine V_aload_n X dX9_lacksSub_0 rfl rfl ?_
  refine V_iload_n X dX9_lacksSub_1 rfl ?_
  apply V_callV1 X dX9_lacksSub_2 mk_X9_260 iv_X9_lacks (c_lacks l h8)
  · first | assumption | exact hu_s | exact (hu_n (by first | exact kd_nk (by decide) | exact kd_ni (by omega) | exact kd_ng (by omega) | assumption | exact Ne.symm (by assumption))).trans (by first | assumption | exact hu_s | exact (hu_n (by first | exact kd_nk (by decide) | exact kd_ni (by omega) | exact kd_ng (by omega) | assumption | exact Ne.symm (by assumption))).trans (by first | assumption | exact hu_s | exact (hu_n (by first | exact kd_nk (by decide) | exact kd_ni (by omega) | exact kd_ng (by omega) | assumption | exact Ne.symm (by assumption))).trans (by first | assumption | exact hu_s)))
  · exact rfl
  · exact Nat.le_of_ble_eq_true rfl
  · exact ⟨Nat.le_of_ble_eq_true rfl, Nat.le_of_ble_eq_true rfl⟩
  · exact ⟨by dsimp only [rmm]; omega, by dsimp only [rmm]; omega⟩
  rintro r I1 ⟨rfl, rfl⟩
  refine V_istore_n X dX9_lacksSub_5 (by decide) rfl ?_
  refine V_iload_n X dX9_lacksSub_6 rfl ?_
  refine V_if_ge X dX9_lacksSub_7 14 (by decide) (fun c_7 => ?_) (fun c_7 => ?_)
  · refine V_iload_n X dX9_lacksSub_14 rfl ?_
    refine V_i2l X dX9_lacksSub_15 ?_
    refine V_lconst (v := 0) X dX9_lacksSub_16 (by decide) ?_
    refine V_aload_n X dX9_lacksSub_17 rfl rfl ?_
    refine M_geti X dX9_lacksSub_18 fk_X9_224 (by decide) rfl ?_
    refine V_iconst (v := 1) X dX9_lacksSub_21 (by decide) ?_
    refine V_isub X dX9_lacksSub_22 ?_
    refine V_i2l X dX9_lacksSub_23 ?_
    refine V_callS3 X dX9_lacksSub_24 mk_X9_171 st_X9_in (c_inX l (N := N15) (by omega) e15) (Nat.le_of_ble_eq_true rfl) ⟨Nat.le_of_ble_eq_true rfl, Nat.le_of_ble_eq_true rfl⟩ ?_ ?_
    · exact ⟨by dsimp only [rmm]; omega, by dsimp only [rmm]; omega⟩
    rintro r I1 ⟨rfl, rfl⟩
    refine V_if_eq X dX9_lacksSub_27 49 (by decide) (fun c_27 => ?_) (fun c_27 => ?_)
    · have h_27 := bz_f c_27
      have hz : ¬ okB (entS S s) s b := fun q => h_27 q.1.1
      refine V_bipush (v := (-5)) X dX9_lacksSub_49 (by decide) ?_
      refine V_goto X dX9_lacksSub_51 55 (by decide) ?_
      refine V_iret X dX9_lacksSub_55 ?_ ?_ ?_ ?_
      · exact rfl
      · dsimp only [rmm]; omega
      · dsimp only [rmm]; omega
      exact ⟨by rw [lkB, if_pos c_7, if_neg hz], rfl⟩
    have h_27 := bz_t c_27
    refine V_aload_n X dX9_lacksSub_30 rfl rfl ?_
    refine M_geta X dX9_lacksSub_31 fk_X9_44 (by decide) rfl ?_
    refine V_iload_n X dX9_lacksSub_34 rfl ?_
    refine M_zald X dX9_lacksSub_35 (by decide) rfl (sub_in (ct_ent h15 (by decide)) h_27) ?_
    refine V_if_eq X dX9_lacksSub_36 49 (by decide) (fun c_36 => ?_) (fun c_36 => ?_)
    · have hz : ¬ okB (entS S s) s b := fun q => q.1.2 c_36
      refine V_bipush (v := (-5)) X dX9_lacksSub_49 (by decide) ?_
      refine V_goto X dX9_lacksSub_51 55 (by decide) ?_
      refine V_iret X dX9_lacksSub_55 ?_ ?_ ?_ ?_
      · exact rfl
      · dsimp only [rmm]; omega
      · dsimp only [rmm]; omega
      exact ⟨by rw [lkB, if_pos c_7, if_neg hz], rfl⟩
    refine V_aload_n X dX9_lacksSub_39 rfl rfl ?_
    refine M_geta X dX9_lacksSub_40 fk_X9_48 (by decide) rfl ?_
    refine V_iload_n X dX9_lacksSub_43 rfl ?_
    refine M_iald X dX9_lacksSub_44 (by decide) rfl (sub_in (ct_ent h15 (by decide)) h_27) ?_
    refine V_iload_n X dX9_lacksSub_45 rfl ?_
    refine V_icmp_eq X dX9_lacksSub_46 54 (by decide) (fun c_46 => ?_) (fun c_46 => ?_)
    · have hz : okB (entS S s) s b := ⟨⟨h_27, c_36⟩, c_46⟩
      refine V_iconst (v := 0) X dX9_lacksSub_54 (by decide) ?_
      refine V_iret X dX9_lacksSub_55 ?_ ?_ ?_ ?_
      · exact rfl
      · dsimp only [rmm]; omega
      · dsimp only [rmm]; omega
      exact ⟨by rw [lkB, if_pos c_7, if_pos hz], rfl⟩
    have hz : ¬ okB (entS S s) s b := fun q => c_46 q.2
    refine V_bipush (v := (-5)) X dX9_lacksSub_49 (by decide) ?_
    refine V_goto X dX9_lacksSub_51 55 (by decide) ?_
    refine V_iret X dX9_lacksSub_55 ?_ ?_ ?_ ?_
    · exact rfl
    · dsimp only [rmm]; omega
    · dsimp only [rmm]; omega
    exact ⟨by rw [lkB, if_pos c_7, if_neg hz], rfl⟩
  refine V_iload_n X dX9_lacksSub_10 rfl ?_
  refine V_goto X dX9_lacksSub_11 55 (by decide) ?_
  refine V_iret X dX9_lacksSub_55 ?_ ?_ ?_ ?_
  · exact rfl
  · dsimp only [rmm]; omega
  · dsimp only [rmm]; omega
  exact ⟨by rw [lkB, if_neg c_7], rfl⟩
set_option maxRecDepth 100000 in
set_option maxHeartbeats 4000000 in
theorem m_modify (l : Launch) {S : St} {J : aH} {s b p k m1 m : Int32} (h8 : ct S 8 12) (h15 : ct S 15 20) : AM l yX9_modify cX9_modify 8 (some .int) (rmm 3 0 0 70) [.ref mO, .int s, .int b, .int p, .int k, .int m1, .int m] (ovl S J) (fun r I' => r = some (.int (op_modify S s b p k m1 m).2) ∧ I' = ovl (op_modify S s b p k m1 m).1 J) := by
  refine AM_of RX9 (by decide) rfl [some (.ref mO), some (.int s), some (.int b), some (.int p), some (.int k), some (.int m1), some (.int m), none] rfl (Nat.le_of_ble_eq_true rfl) (fun Z X hNm => ?_)
  refine V_aload_n X dX9_modify_0 rfl rfl ?_
  refine V_iload_n X dX9_modify_1 rfl ?_
  refine V_iload_n X dX9_modify_2 rfl ?_
  apply V_callV2 X dX9_modify_3 mk_X9_283 iv_X9_lacksSub (c_lacksSub l h8 h15)
  · first | assumption | exact hu_s | exact (hu_n (by first | exact kd_nk (by decide) | exact kd_ni (by omega) | exact kd_ng (by omega) | assumption | exact Ne.symm (by assumption))).trans (by first | assumption | exact hu_s | exact (hu_n (by first | exact kd_nk (by decide) | exact kd_ni (by omega) | exact kd_ng (by omega) | assumption | exact Ne.symm (by assumption))).trans (by first | assumption | exact hu_s | exact (hu_n (by first | exact kd_nk (by decide) | exact kd_ni (by omega) | exact kd_ng (by omega) | assumption | exact Ne.symm (by assumption))).trans (by first | assumption | exact hu_s)))
  · exact rfl
  · exact Nat.le_of_ble_eq_true rfl
  · exact ⟨Nat.le_of_ble_eq_true rfl, Nat.le_of_ble_eq_true rfl⟩
  · exact ⟨by dsimp only [rmm]; omega, by dsimp only [rmm]; omega⟩
  rintro r I1 ⟨rfl, rfl⟩
  refine V_istore X dX9_modify_6 (by decide) rfl ?_
  refine V_iload X dX9_modify_8 rfl ?_
  refine V_if_ge X dX9_modify_10 18 (by decide) (fun c_10 => ?_) (fun c_10 => ?_)
  · refine V_iload_n X dX9_modify_18 rfl ?_
    refine V_iload X dX9_modify_19 rfl ?_
    refine V_iload X dX9_modify_21 rfl ?_
    refine V_iload X dX9_modify_23 rfl ?_
    refine V_callS4 X dX9_modify_25 mk_X9_275 st_X9_areRight (c_areR l) (Nat.le_of_ble_eq_true rfl) ⟨Nat.le_of_ble_eq_true rfl, Nat.le_of_ble_eq_true rfl⟩ ?_ ?_
    · exact ⟨by dsimp only [rmm]; omega, by dsimp only [rmm]; omega⟩
    rintro r I1 ⟨rfl, rfl⟩
    refine V_if_ne X dX9_modify_28 36 (by decide) (fun c_28 => ?_) (fun c_28 => ?_)
    · have h_28 := bz_t c_28
      refine V_iconst (v := 0) X dX9_modify_36 (by decide) ?_
      refine V_istore X dX9_modify_37 (by decide) rfl ?_
      refine V_iload X dX9_modify_39 rfl ?_
      refine V_if_ge X dX9_modify_41 51 (by decide) (fun c_41 => ?_) (fun c_41 => ?_)
      · refine V_aload_n X dX9_modify_51 rfl rfl ?_
        refine V_iload_n X dX9_modify_52 rfl ?_
        refine V_iload_n X dX9_modify_53 rfl ?_
        refine V_iload X dX9_modify_54 rfl ?_
        refine V_iload X dX9_modify_56 rfl ?_
        refine V_iload X dX9_modify_58 rfl ?_
        apply V_callV5 X dX9_modify_60 mk_X9_279 iv_X9_set (c_set9 l (sub_in (ct_ent h15 (by decide)) (lkB_ok c_10).2.1.1))
        · first | assumption | exact hu_s | exact (hu_n (by first | exact kd_nk (by decide) | exact kd_ni (by omega) | exact kd_ng (by omega) | assumption | exact Ne.symm (by assumption))).trans (by first | assumption | exact hu_s | exact (hu_n (by first | exact kd_nk (by decide) | exact kd_ni (by omega) | exact kd_ng (by omega) | assumption | exact Ne.symm (by assumption))).trans (by first | assumption | exact hu_s | exact (hu_n (by first | exact kd_nk (by decide) | exact kd_ni (by omega) | exact kd_ng (by omega) | assumption | exact Ne.symm (by assumption))).trans (by first | assumption | exact hu_s)))
        · exact rfl
        · exact Nat.le_of_ble_eq_true rfl
        · exact ⟨Nat.le_of_ble_eq_true rfl, Nat.le_of_ble_eq_true rfl⟩
        · exact ⟨by dsimp only [rmm]; omega, by dsimp only [rmm]; omega⟩
        rintro r I1 ⟨rfl, rfl⟩
        refine V_iconst (v := 1) X dX9_modify_63 (by decide) ?_
        refine V_iret X dX9_modify_64 ?_ ?_ ?_ ?_
        · exact rfl
        · dsimp only [rmm]; omega
        · dsimp only [rmm]; omega
        refine ⟨?_, ?_⟩ <;> rw [op_modify, if_pos c_10, if_pos h_28]
      · exact absurd c_41 (by decide)
    have h_28 := bz_f c_28
    refine V_bipush (v := (-7)) X dX9_modify_31 (by decide) ?_
    refine V_goto X dX9_modify_33 37 (by decide) ?_
    refine V_istore X dX9_modify_37 (by decide) rfl ?_
    refine V_iload X dX9_modify_39 rfl ?_
    refine V_if_ge X dX9_modify_41 51 (by decide) (fun c_41 => ?_) (fun c_41 => ?_)
    · exact absurd c_41 (by decide)
    refine V_aload_n X dX9_modify_44 rfl rfl ?_
    refine V_iload X dX9_modify_45 rfl ?_
    apply V_callV1 X dX9_modify_47 mk_X9_175 iv_X9_refuse (c_refuse9 l (x := -7) (by unfold vp_in; decide))
    · first | assumption | exact hu_s | exact (hu_n (by first | exact kd_nk (by decide) | exact kd_ni (by omega) | exact kd_ng (by omega) | assumption | exact Ne.symm (by assumption))).trans (by first | assumption | exact hu_s | exact (hu_n (by first | exact kd_nk (by decide) | exact kd_ni (by omega) | exact kd_ng (by omega) | assumption | exact Ne.symm (by assumption))).trans (by first | assumption | exact hu_s | exact (hu_n (by first | exact kd_nk (by decide) | exact kd_ni (by omega) | exact kd_ng (by omega) | assumption | exact Ne.symm (by assumption))).trans (by first | assumption | exact hu_s)))
    · exact rfl
    · exact Nat.le_of_ble_eq_true rfl
    · exact ⟨Nat.le_of_ble_eq_true rfl, Nat.le_of_ble_eq_true rfl⟩
    · exact ⟨by dsimp only [rmm]; omega, by dsimp only [rmm]; omega⟩
    rintro r I1 ⟨rfl, rfl⟩
    refine V_iret X dX9_modify_50 ?_ ?_ ?_ ?_
    · exact rfl
    · dsimp only [rmm]; omega
    · dsimp only [rmm]; omega
    refine ⟨?_, ?_⟩ <;> rw [op_modify, if_pos c_10, if_neg h_28]
  refine V_iload X dX9_modify_13 rfl ?_
  refine V_goto X dX9_modify_15 37 (by decide) ?_
  refine V_istore X dX9_modify_37 (by decide) rfl ?_
  refine V_iload X dX9_modify_39 rfl ?_
  refine V_if_ge X dX9_modify_41 51 (by decide) (fun c_41 => ?_) (fun c_41 => ?_)
  · exact absurd c_41 c_10
  refine V_aload_n X dX9_modify_44 rfl rfl ?_
  refine V_iload X dX9_modify_45 rfl ?_
  apply V_callV1 X dX9_modify_47 mk_X9_175 iv_X9_refuse (c_refuse9 l (x := lkB S s b) (lkB_in c_10))
  · first | assumption | exact hu_s | exact (hu_n (by first | exact kd_nk (by decide) | exact kd_ni (by omega) | exact kd_ng (by omega) | assumption | exact Ne.symm (by assumption))).trans (by first | assumption | exact hu_s | exact (hu_n (by first | exact kd_nk (by decide) | exact kd_ni (by omega) | exact kd_ng (by omega) | assumption | exact Ne.symm (by assumption))).trans (by first | assumption | exact hu_s | exact (hu_n (by first | exact kd_nk (by decide) | exact kd_ni (by omega) | exact kd_ng (by omega) | assumption | exact Ne.symm (by assumption))).trans (by first | assumption | exact hu_s)))
  · exact rfl
  · exact Nat.le_of_ble_eq_true rfl
  · exact ⟨Nat.le_of_ble_eq_true rfl, Nat.le_of_ble_eq_true rfl⟩
  · exact ⟨by dsimp only [rmm]; omega, by dsimp only [rmm]; omega⟩
  rintro r I1 ⟨rfl, rfl⟩
  refine V_iret X dX9_modify_50 ?_ ?_ ?_ ?_
  · exact rfl
  · dsimp only [rmm]; omega
  · dsimp only [rmm]; omega
  refine ⟨?_, ?_⟩ <;> rw [op_modify, if_neg c_10]
set_option maxRecDepth 100000 in
set_option maxHeartbeats 4000000 in
theorem m_turn (l : Launch) {S : St} {J : aH} {s b on : Int32} (h8 : ct S 8 12) (h15 : ct S 15 20) (hon : vp_nar .boolean on = on) : AM l yX9_turn cX9_turn 6 (some .int) (rmm 3 0 0 70) [.ref mO, .int s, .int b, .int on] (ovl S J) (fun r I' => r = some (.int (op_turn S s b on).2) ∧ I' = ovl (op_turn S s b on).1 J) := by
  refine AM_of RX9 (by decide) rfl [some (.ref mO), some (.int s), some (.int b), some (.int on), none, none] rfl (Nat.le_of_ble_eq_true rfl) (fun Z X hNm => ?_)
  refine V_aload_n X dX9_turn_0 rfl rfl ?_
  refine V_iload_n X dX9_turn_1 rfl ?_
  refine V_iload_n X dX9_turn_2 rfl ?_
  apply V_callV2 X dX9_turn_3 mk_X9_283 iv_X9_lacksSub (c_lacksSub l h8 h15)
  · first | assumption | exact hu_s | exact (hu_n (by first | exact kd_nk (by decide) | exact kd_ni (by omega) | exact kd_ng (by omega) | assumption | exact Ne.symm (by assumption))).trans (by first | assumption | exact hu_s | exact (hu_n (by first | exact kd_nk (by decide) | exact kd_ni (by omega) | exact kd_ng (by omega) | assumption | exact Ne.symm (by assumption))).trans (by first | assumption | exact hu_s | exact (hu_n (by first | exact kd_nk (by decide) | exact kd_ni (by omega) | exact kd_ng (by omega) | assumption | exact Ne.symm (by assumption))).trans (by first | assumption | exact hu_s)))
  · exact rfl
  · exact Nat.le_of_ble_eq_true rfl
  · exact ⟨Nat.le_of_ble_eq_true rfl, Nat.le_of_ble_eq_true rfl⟩
  · exact ⟨by dsimp only [rmm]; omega, by dsimp only [rmm]; omega⟩
  rintro r I1 ⟨rfl, rfl⟩
  refine V_istore X dX9_turn_6 (by decide) rfl ?_
  refine V_iload X dX9_turn_8 rfl ?_
  refine V_if_ge X dX9_turn_10 20 (by decide) (fun c_10 => ?_) (fun c_10 => ?_)
  · refine V_aload_n X dX9_turn_20 rfl rfl ?_
    refine M_geta X dX9_turn_21 fk_X9_66 (by decide) rfl ?_
    refine V_iload_n X dX9_turn_24 rfl ?_
    refine M_zald X dX9_turn_25 (by decide) rfl (sub_in (ct_ent h15 (by decide)) (lkB_ok c_10).2.1.1) ?_
    refine V_iload_n X dX9_turn_26 rfl ?_
    refine V_icmp_eq X dX9_turn_27 34 (by decide) (fun c_27 => ?_) (fun c_27 => ?_)
    · refine V_iconst (v := 0) X dX9_turn_34 (by decide) ?_
      refine V_istore X dX9_turn_35 (by decide) rfl ?_
      refine V_aload_n X dX9_turn_37 rfl rfl ?_
      refine M_geta X dX9_turn_38 fk_X9_66 (by decide) rfl ?_
      refine V_iload_n X dX9_turn_41 rfl ?_
      refine V_iload_n X dX9_turn_42 rfl ?_
      refine M_zast X dX9_turn_43 (by decide) rfl (sub_in (ct_ent h15 (by decide)) (lkB_ok c_10).2.1.1) (hon) ?_
      refine V_aload_n X dX9_turn_44 rfl rfl ?_
      refine M_geta X dX9_turn_45 fk_X9_75 (by decide) rfl ?_
      refine V_iload_n X dX9_turn_48 rfl ?_
      refine V_aload_n X dX9_turn_49 rfl rfl ?_
      refine M_geta X dX9_turn_50 fk_X9_60 (by decide) rfl ?_
      refine V_iload_n X dX9_turn_53 rfl ?_
      refine M_iald X dX9_turn_54 (by decide) rfl (sub_in (ct_ent h15 (by decide)) (lkB_ok c_10).2.1.1) ?_
      refine M_iast X dX9_turn_55 (by decide) rfl (sub_in (ct_ent h15 (by decide)) (lkB_ok c_10).2.1.1) ?_
      refine V_iload X dX9_turn_56 rfl ?_
      refine V_if_eq X dX9_turn_58 65 (by decide) (fun c_58 => ?_) (fun c_58 => ?_)
      · refine V_iconst (v := 0) X dX9_turn_65 (by decide) ?_
        refine V_iret X dX9_turn_66 ?_ ?_ ?_ ?_
        · exact rfl
        · dsimp only [rmm]; omega
        · dsimp only [rmm]; omega
        refine ⟨?_, ?_⟩ <;> simp only [op_turn, if_pos c_10, if_pos c_27]
      · exact absurd c_58 (by decide)
    refine V_iconst (v := 1) X dX9_turn_30 (by decide) ?_
    refine V_goto X dX9_turn_31 35 (by decide) ?_
    refine V_istore X dX9_turn_35 (by decide) rfl ?_
    refine V_aload_n X dX9_turn_37 rfl rfl ?_
    refine M_geta X dX9_turn_38 fk_X9_66 (by decide) rfl ?_
    refine V_iload_n X dX9_turn_41 rfl ?_
    refine V_iload_n X dX9_turn_42 rfl ?_
    refine M_zast X dX9_turn_43 (by decide) rfl (sub_in (ct_ent h15 (by decide)) (lkB_ok c_10).2.1.1) (hon) ?_
    refine V_aload_n X dX9_turn_44 rfl rfl ?_
    refine M_geta X dX9_turn_45 fk_X9_75 (by decide) rfl ?_
    refine V_iload_n X dX9_turn_48 rfl ?_
    refine V_aload_n X dX9_turn_49 rfl rfl ?_
    refine M_geta X dX9_turn_50 fk_X9_60 (by decide) rfl ?_
    refine V_iload_n X dX9_turn_53 rfl ?_
    refine M_iald X dX9_turn_54 (by decide) rfl (sub_in (ct_ent h15 (by decide)) (lkB_ok c_10).2.1.1) ?_
    refine M_iast X dX9_turn_55 (by decide) rfl (sub_in (ct_ent h15 (by decide)) (lkB_ok c_10).2.1.1) ?_
    refine V_iload X dX9_turn_56 rfl ?_
    refine V_if_eq X dX9_turn_58 65 (by decide) (fun c_58 => ?_) (fun c_58 => ?_)
    · exact absurd c_58 (by decide)
    refine V_iconst (v := 1) X dX9_turn_61 (by decide) ?_
    refine V_goto X dX9_turn_62 66 (by decide) ?_
    refine V_iret X dX9_turn_66 ?_ ?_ ?_ ?_
    · exact rfl
    · dsimp only [rmm]; omega
    · dsimp only [rmm]; omega
    refine ⟨?_, ?_⟩ <;> simp only [op_turn, if_pos c_10, if_neg c_27]
  refine V_aload_n X dX9_turn_13 rfl rfl ?_
  refine V_iload X dX9_turn_14 rfl ?_
  apply V_callV1 X dX9_turn_16 mk_X9_175 iv_X9_refuse (c_refuse9 l (x := lkB S s b) (lkB_in c_10))
  · first | assumption | exact hu_s | exact (hu_n (by first | exact kd_nk (by decide) | exact kd_ni (by omega) | exact kd_ng (by omega) | assumption | exact Ne.symm (by assumption))).trans (by first | assumption | exact hu_s | exact (hu_n (by first | exact kd_nk (by decide) | exact kd_ni (by omega) | exact kd_ng (by omega) | assumption | exact Ne.symm (by assumption))).trans (by first | assumption | exact hu_s | exact (hu_n (by first | exact kd_nk (by decide) | exact kd_ni (by omega) | exact kd_ng (by omega) | assumption | exact Ne.symm (by assumption))).trans (by first | assumption | exact hu_s)))
  · exact rfl
  · exact Nat.le_of_ble_eq_true rfl
  · exact ⟨Nat.le_of_ble_eq_true rfl, Nat.le_of_ble_eq_true rfl⟩
  · exact ⟨by dsimp only [rmm]; omega, by dsimp only [rmm]; omega⟩
  rintro r I1 ⟨rfl, rfl⟩
  refine V_iret X dX9_turn_19 ?_ ?_ ?_ ?_
  · exact rfl
  · dsimp only [rmm]; omega
  · dsimp only [rmm]; omega
  refine ⟨?_, ?_⟩ <;> rw [op_turn, if_neg c_10]
set_option maxRecDepth 100000 in
set_option maxHeartbeats 4000000 in
theorem m_transfer (l : Launch) {S : St} {J : aH} {s b : Int32} (h8 : ct S 8 12) (h15 : ct S 15 20) : AM l yX9_transfer cX9_transfer 5 (some .int) (rmm 2 0 0 50) [.ref mO, .int s, .int b] (ovl S J) (fun r I' => r = some (.int (op_transfer S s b).2) ∧ I' = ovl (op_transfer S s b).1 J) := by
  obtain ⟨N15, hN15, e15⟩ := ct_ent (s := s) h15 (by decide)
  refine AM_of RX9 (by decide) rfl [some (.ref mO), some (.int s), some (.int b), none, none] rfl (Nat.le_of_ble_eq_true rfl) (fun Z X hNm => ?_)
  refine V_aload_n X dX9_transfer_0 rfl rfl ?_
  refine V_iload_n X dX9_transfer_1 rfl ?_
  apply V_callV1 X dX9_transfer_2 mk_X9_260 iv_X9_lacks (c_lacks l h8)
  · first | assumption | exact hu_s | exact (hu_n (by first | exact kd_nk (by decide) | exact kd_ni (by omega) | exact kd_ng (by omega) | assumption | exact Ne.symm (by assumption))).trans (by first | assumption | exact hu_s | exact (hu_n (by first | exact kd_nk (by decide) | exact kd_ni (by omega) | exact kd_ng (by omega) | assumption | exact Ne.symm (by assumption))).trans (by first | assumption | exact hu_s | exact (hu_n (by first | exact kd_nk (by decide) | exact kd_ni (by omega) | exact kd_ng (by omega) | assumption | exact Ne.symm (by assumption))).trans (by first | assumption | exact hu_s)))
  · exact rfl
  · exact Nat.le_of_ble_eq_true rfl
  · exact ⟨Nat.le_of_ble_eq_true rfl, Nat.le_of_ble_eq_true rfl⟩
  · exact ⟨by dsimp only [rmm]; omega, by dsimp only [rmm]; omega⟩
  rintro r I1 ⟨rfl, rfl⟩
  refine V_istore_n X dX9_transfer_5 (by decide) rfl ?_
  refine V_iload_n X dX9_transfer_6 rfl ?_
  refine V_if_ge X dX9_transfer_7 14 (by decide) (fun c_7 => ?_) (fun c_7 => ?_)
  · refine V_iload_n X dX9_transfer_14 rfl ?_
    refine V_i2l X dX9_transfer_15 ?_
    refine V_lconst (v := 0) X dX9_transfer_16 (by decide) ?_
    refine V_aload_n X dX9_transfer_17 rfl rfl ?_
    refine M_geti X dX9_transfer_18 fk_X9_224 (by decide) rfl ?_
    refine V_iconst (v := 1) X dX9_transfer_21 (by decide) ?_
    refine V_isub X dX9_transfer_22 ?_
    refine V_i2l X dX9_transfer_23 ?_
    refine V_callS3 X dX9_transfer_24 mk_X9_171 st_X9_in (c_inX l (N := N15) (by omega) e15) (Nat.le_of_ble_eq_true rfl) ⟨Nat.le_of_ble_eq_true rfl, Nat.le_of_ble_eq_true rfl⟩ ?_ ?_
    · exact ⟨by dsimp only [rmm]; omega, by dsimp only [rmm]; omega⟩
    rintro r I1 ⟨rfl, rfl⟩
    refine V_if_eq X dX9_transfer_27 39 (by decide) (fun c_27 => ?_) (fun c_27 => ?_)
    · have h_27 := bz_f c_27
      refine V_bipush (v := (-5)) X dX9_transfer_39 (by decide) ?_
      refine V_goto X dX9_transfer_41 45 (by decide) ?_
      refine V_istore_n X dX9_transfer_45 (by decide) rfl ?_
      refine V_iload_n X dX9_transfer_46 rfl ?_
      refine V_if_ge X dX9_transfer_47 56 (by decide) (fun c_47 => ?_) (fun c_47 => ?_)
      · exact absurd c_47 (by decide)
      refine V_aload_n X dX9_transfer_50 rfl rfl ?_
      refine V_iload_n X dX9_transfer_51 rfl ?_
      apply V_callV1 X dX9_transfer_52 mk_X9_175 iv_X9_refuse (c_refuse9 l (x := -5) (by unfold vp_in; decide))
      · first | assumption | exact hu_s | exact (hu_n (by first | exact kd_nk (by decide) | exact kd_ni (by omega) | exact kd_ng (by omega) | assumption | exact Ne.symm (by assumption))).trans (by first | assumption | exact hu_s | exact (hu_n (by first | exact kd_nk (by decide) | exact kd_ni (by omega) | exact kd_ng (by omega) | assumption | exact Ne.symm (by assumption))).trans (by first | assumption | exact hu_s | exact (hu_n (by first | exact kd_nk (by decide) | exact kd_ni (by omega) | exact kd_ng (by omega) | assumption | exact Ne.symm (by assumption))).trans (by first | assumption | exact hu_s)))
      · exact rfl
      · exact Nat.le_of_ble_eq_true rfl
      · exact ⟨Nat.le_of_ble_eq_true rfl, Nat.le_of_ble_eq_true rfl⟩
      · exact ⟨by dsimp only [rmm]; omega, by dsimp only [rmm]; omega⟩
      rintro r I1 ⟨rfl, rfl⟩
      refine V_iret X dX9_transfer_55 ?_ ?_ ?_ ?_
      · exact rfl
      · dsimp only [rmm]; omega
      · dsimp only [rmm]; omega
      refine ⟨?_, ?_⟩ <;> rw [op_transfer, if_pos c_7, if_neg (fun q => h_27 q.1)]
    have h_27 := bz_t c_27
    refine V_aload_n X dX9_transfer_30 rfl rfl ?_
    refine M_geta X dX9_transfer_31 fk_X9_44 (by decide) rfl ?_
    refine V_iload_n X dX9_transfer_34 rfl ?_
    refine M_zald X dX9_transfer_35 (by decide) rfl (sub_in (ct_ent h15 (by decide)) h_27) ?_
    refine V_if_ne X dX9_transfer_36 44 (by decide) (fun c_36 => ?_) (fun c_36 => ?_)
    · refine V_iconst (v := 0) X dX9_transfer_44 (by decide) ?_
      refine V_istore_n X dX9_transfer_45 (by decide) rfl ?_
      refine V_iload_n X dX9_transfer_46 rfl ?_
      refine V_if_ge X dX9_transfer_47 56 (by decide) (fun c_47 => ?_) (fun c_47 => ?_)
      · refine V_aload_n X dX9_transfer_56 rfl rfl ?_
        refine M_geta X dX9_transfer_57 fk_X9_48 (by decide) rfl ?_
        refine V_iload_n X dX9_transfer_60 rfl ?_
        refine M_iald X dX9_transfer_61 (by decide) rfl (sub_in (ct_ent h15 (by decide)) h_27) ?_
        refine V_iload_n X dX9_transfer_62 rfl ?_
        refine V_icmp_ne X dX9_transfer_63 70 (by decide) (fun c_63 => ?_) (fun c_63 => ?_)
        · refine V_iconst (v := 0) X dX9_transfer_70 (by decide) ?_
          refine V_istore X dX9_transfer_71 (by decide) rfl ?_
          refine V_aload_n X dX9_transfer_73 rfl rfl ?_
          refine M_geta X dX9_transfer_74 fk_X9_48 (by decide) rfl ?_
          refine V_iload_n X dX9_transfer_77 rfl ?_
          refine V_iload_n X dX9_transfer_78 rfl ?_
          refine M_iast X dX9_transfer_79 (by decide) rfl (sub_in (ct_ent h15 (by decide)) h_27) ?_
          refine V_aload_n X dX9_transfer_80 rfl rfl ?_
          refine M_geta X dX9_transfer_81 fk_X9_75 (by decide) rfl ?_
          refine V_iload_n X dX9_transfer_84 rfl ?_
          refine V_aload_n X dX9_transfer_85 rfl rfl ?_
          refine M_geta X dX9_transfer_86 fk_X9_60 (by decide) rfl ?_
          refine V_iload_n X dX9_transfer_89 rfl ?_
          refine M_iald X dX9_transfer_90 (by decide) rfl (sub_in (ct_ent h15 (by decide)) h_27) ?_
          refine M_iast X dX9_transfer_91 (by decide) rfl (sub_in (ct_ent h15 (by decide)) h_27) ?_
          refine V_iload X dX9_transfer_92 rfl ?_
          refine V_if_eq X dX9_transfer_94 101 (by decide) (fun c_94 => ?_) (fun c_94 => ?_)
          · refine V_iconst (v := 1) X dX9_transfer_101 (by decide) ?_
            refine V_iret X dX9_transfer_102 ?_ ?_ ?_ ?_
            · exact rfl
            · dsimp only [rmm]; omega
            · dsimp only [rmm]; omega
            refine ⟨?_, ?_⟩ <;> simp only [op_transfer, if_pos c_7, if_pos (show isSub (entS S s) b ∧ ¬ (entS S s).1 16 (nn b) = 0 from ⟨h_27, c_36⟩), if_neg c_63]
          · exact absurd c_94 (by decide)
        refine V_iconst (v := 1) X dX9_transfer_66 (by decide) ?_
        refine V_goto X dX9_transfer_67 71 (by decide) ?_
        refine V_istore X dX9_transfer_71 (by decide) rfl ?_
        refine V_aload_n X dX9_transfer_73 rfl rfl ?_
        refine M_geta X dX9_transfer_74 fk_X9_48 (by decide) rfl ?_
        refine V_iload_n X dX9_transfer_77 rfl ?_
        refine V_iload_n X dX9_transfer_78 rfl ?_
        refine M_iast X dX9_transfer_79 (by decide) rfl (sub_in (ct_ent h15 (by decide)) h_27) ?_
        refine V_aload_n X dX9_transfer_80 rfl rfl ?_
        refine M_geta X dX9_transfer_81 fk_X9_75 (by decide) rfl ?_
        refine V_iload_n X dX9_transfer_84 rfl ?_
        refine V_aload_n X dX9_transfer_85 rfl rfl ?_
        refine M_geta X dX9_transfer_86 fk_X9_60 (by decide) rfl ?_
        refine V_iload_n X dX9_transfer_89 rfl ?_
        refine M_iald X dX9_transfer_90 (by decide) rfl (sub_in (ct_ent h15 (by decide)) h_27) ?_
        refine M_iast X dX9_transfer_91 (by decide) rfl (sub_in (ct_ent h15 (by decide)) h_27) ?_
        refine V_iload X dX9_transfer_92 rfl ?_
        refine V_if_eq X dX9_transfer_94 101 (by decide) (fun c_94 => ?_) (fun c_94 => ?_)
        · exact absurd c_94 (by decide)
        refine V_iconst (v := 0) X dX9_transfer_97 (by decide) ?_
        refine V_goto X dX9_transfer_98 102 (by decide) ?_
        refine V_iret X dX9_transfer_102 ?_ ?_ ?_ ?_
        · exact rfl
        · dsimp only [rmm]; omega
        · dsimp only [rmm]; omega
        refine ⟨?_, ?_⟩ <;> simp only [op_transfer, if_pos c_7, if_pos (show isSub (entS S s) b ∧ ¬ (entS S s).1 16 (nn b) = 0 from ⟨h_27, c_36⟩), if_pos c_63]
      · exact absurd c_47 (by decide)
    refine V_bipush (v := (-5)) X dX9_transfer_39 (by decide) ?_
    refine V_goto X dX9_transfer_41 45 (by decide) ?_
    refine V_istore_n X dX9_transfer_45 (by decide) rfl ?_
    refine V_iload_n X dX9_transfer_46 rfl ?_
    refine V_if_ge X dX9_transfer_47 56 (by decide) (fun c_47 => ?_) (fun c_47 => ?_)
    · exact absurd c_47 (by decide)
    refine V_aload_n X dX9_transfer_50 rfl rfl ?_
    refine V_iload_n X dX9_transfer_51 rfl ?_
    apply V_callV1 X dX9_transfer_52 mk_X9_175 iv_X9_refuse (c_refuse9 l (x := -5) (by unfold vp_in; decide))
    · first | assumption | exact hu_s | exact (hu_n (by first | exact kd_nk (by decide) | exact kd_ni (by omega) | exact kd_ng (by omega) | assumption | exact Ne.symm (by assumption))).trans (by first | assumption | exact hu_s | exact (hu_n (by first | exact kd_nk (by decide) | exact kd_ni (by omega) | exact kd_ng (by omega) | assumption | exact Ne.symm (by assumption))).trans (by first | assumption | exact hu_s | exact (hu_n (by first | exact kd_nk (by decide) | exact kd_ni (by omega) | exact kd_ng (by omega) | assumption | exact Ne.symm (by assumption))).trans (by first | assumption | exact hu_s)))
    · exact rfl
    · exact Nat.le_of_ble_eq_true rfl
    · exact ⟨Nat.le_of_ble_eq_true rfl, Nat.le_of_ble_eq_true rfl⟩
    · exact ⟨by dsimp only [rmm]; omega, by dsimp only [rmm]; omega⟩
    rintro r I1 ⟨rfl, rfl⟩
    refine V_iret X dX9_transfer_55 ?_ ?_ ?_ ?_
    · exact rfl
    · dsimp only [rmm]; omega
    · dsimp only [rmm]; omega
    refine ⟨?_, ?_⟩ <;> rw [op_transfer, if_pos c_7, if_neg (fun q => q.2 c_36)]
  refine V_iload_n X dX9_transfer_10 rfl ?_
  refine V_goto X dX9_transfer_11 45 (by decide) ?_
  refine V_istore_n X dX9_transfer_45 (by decide) rfl ?_
  refine V_iload_n X dX9_transfer_46 rfl ?_
  refine V_if_ge X dX9_transfer_47 56 (by decide) (fun c_47 => ?_) (fun c_47 => ?_)
  · exact absurd c_47 c_7
  refine V_aload_n X dX9_transfer_50 rfl rfl ?_
  refine V_iload_n X dX9_transfer_51 rfl ?_
  apply V_callV1 X dX9_transfer_52 mk_X9_175 iv_X9_refuse (c_refuse9 l (x := lackS S s) (lackS_in c_7))
  · first | assumption | exact hu_s | exact (hu_n (by first | exact kd_nk (by decide) | exact kd_ni (by omega) | exact kd_ng (by omega) | assumption | exact Ne.symm (by assumption))).trans (by first | assumption | exact hu_s | exact (hu_n (by first | exact kd_nk (by decide) | exact kd_ni (by omega) | exact kd_ng (by omega) | assumption | exact Ne.symm (by assumption))).trans (by first | assumption | exact hu_s | exact (hu_n (by first | exact kd_nk (by decide) | exact kd_ni (by omega) | exact kd_ng (by omega) | assumption | exact Ne.symm (by assumption))).trans (by first | assumption | exact hu_s)))
  · exact rfl
  · exact Nat.le_of_ble_eq_true rfl
  · exact ⟨Nat.le_of_ble_eq_true rfl, Nat.le_of_ble_eq_true rfl⟩
  · exact ⟨by dsimp only [rmm]; omega, by dsimp only [rmm]; omega⟩
  rintro r I1 ⟨rfl, rfl⟩
  refine V_iret X dX9_transfer_55 ?_ ?_ ?_ ?_
  · exact rfl
  · dsimp only [rmm]; omega
  · dsimp only [rmm]; omega
  refine ⟨?_, ?_⟩ <;> rw [op_transfer, if_neg c_7]
set_option maxRecDepth 100000 in
set_option maxHeartbeats 4000000 in
theorem m_mail (l : Launch) {S : St} {J : aH} {s i : Int32} (h8 : ct S 8 12) (h13 : ∀ j, j < 12 → ∃ N, N ≤ 1200 ∧ S.1 13 j = nI N) : AM l yX9_mail cX9_mail 3 (some .int) (rmm 1 0 0 25) [.ref mO, .int s, .int i] (ovl S J) (fun r I' => r = some (.int (q_mail S s i)) ∧ I' = ovl S J) := by
  obtain ⟨N8, hN8, e8⟩ := id h8
  refine AM_of RX9 (by decide) rfl [some (.ref mO), some (.int s), some (.int i)] rfl (Nat.le_of_ble_eq_true rfl) (fun Z X hNm => ?_)
  refine V_iload_n X dX9_mail_0 rfl ?_
  refine V_i2l X dX9_mail_1 ?_
  refine V_lconst (v := 0) X dX9_mail_2 (by decide) ?_
  refine V_aload_n X dX9_mail_3 rfl rfl ?_
  refine M_geti X dX9_mail_4 fk_X9_248 (by decide) rfl ?_
  refine V_iconst (v := 1) X dX9_mail_7 (by decide) ?_
  refine V_isub X dX9_mail_8 ?_
  refine V_i2l X dX9_mail_9 ?_
  refine V_callS3 X dX9_mail_10 mk_X9_171 st_X9_in (c_inX l (N := N8) (by omega) e8) (Nat.le_of_ble_eq_true rfl) ⟨Nat.le_of_ble_eq_true rfl, Nat.le_of_ble_eq_true rfl⟩ ?_ ?_
  · exact ⟨by dsimp only [rmm]; omega, by dsimp only [rmm]; omega⟩
  rintro r I1 ⟨rfl, rfl⟩
  refine V_if_ne X dX9_mail_13 20 (by decide) (fun c_13 => ?_) (fun c_13 => ?_)
  · have h_13 := bz_t c_13
    obtain ⟨a, ha, ea⟩ := lt_of_in (ses_in h8 h_13) (by decide)
    obtain ⟨N, hN, eN⟩ := h13 a ha
    have en : s.toNatClampNeg = a := by rw [ea]; exact nI_clamp (by omega)
    refine V_iload_n X dX9_mail_20 rfl ?_
    refine V_i2l X dX9_mail_21 ?_
    refine V_lconst (v := 0) X dX9_mail_22 (by decide) ?_
    refine V_aload_n X dX9_mail_23 rfl rfl ?_
    refine M_geta X dX9_mail_24 fk_X9_38 (by decide) rfl ?_
    refine V_iload_n X dX9_mail_27 rfl ?_
    refine M_iald X dX9_mail_28 (by decide) rfl (ses_in h8 h_13) ?_
    refine V_iconst (v := 1) X dX9_mail_29 (by decide) ?_
    refine V_isub X dX9_mail_30 ?_
    refine V_i2l X dX9_mail_31 ?_
    refine V_callS3 X dX9_mail_32 mk_X9_171 st_X9_in (c_inX l (N := N) (by omega) (by rw [show s.toNatClampNeg = a from en]; exact eN)) (Nat.le_of_ble_eq_true rfl) ⟨Nat.le_of_ble_eq_true rfl, Nat.le_of_ble_eq_true rfl⟩ ?_ ?_
    · exact ⟨by dsimp only [rmm]; omega, by dsimp only [rmm]; omega⟩
    rintro r I1 ⟨rfl, rfl⟩
    refine V_if_eq X dX9_mail_35 53 (by decide) (fun c_35 => ?_) (fun c_35 => ?_)
    · have h_35 := bz_f c_35
      refine V_bipush (v := (-9)) X dX9_mail_53 (by decide) ?_
      refine V_iret X dX9_mail_55 ?_ ?_ ?_ ?_
      · exact rfl
      · dsimp only [rmm]; omega
      · dsimp only [rmm]; omega
      exact ⟨by rw [q_mail, if_pos h_13, if_neg h_35], rfl⟩
    have h_35 := bz_t c_35
    have h35 := h_35
    rw [en, eN] at h35
    obtain ⟨b, hb, eb⟩ := ix_of h35.1 h35.2 (by omega)
    refine V_aload_n X dX9_mail_38 rfl rfl ?_
    refine M_geta X dX9_mail_39 fk_X9_41 (by decide) rfl ?_
    refine V_sipush (v := 1200) X dX9_mail_42 (by decide) ?_
    refine V_iload_n X dX9_mail_45 rfl ?_
    refine V_imul X dX9_mail_46 ?_
    refine V_iload_n X dX9_mail_47 rfl ?_
    refine V_iadd X dX9_mail_48 ?_
    refine M_iald X dX9_mail_49 (by decide) rfl (by rw [ea, eb, show (1200 : Int32) = nI 1200 from rfl, cell_eq]; exact vp_in_nI2 (by omega) (by omega)) ?_
    refine V_goto X dX9_mail_50 55 (by decide) ?_
    refine V_iret X dX9_mail_55 ?_ ?_ ?_ ?_
    · exact rfl
    · dsimp only [rmm]; omega
    · dsimp only [rmm]; omega
    exact ⟨by rw [q_mail, if_pos h_13, if_pos h_35], rfl⟩
  have h_13 := bz_f c_13
  refine V_iconst (v := (-1)) X dX9_mail_16 (by decide) ?_
  refine V_goto X dX9_mail_17 55 (by decide) ?_
  refine V_iret X dX9_mail_55 ?_ ?_ ?_ ?_
  · exact rfl
  · dsimp only [rmm]; omega
  · dsimp only [rmm]; omega
  exact ⟨by rw [q_mail, if_neg h_13], rfl⟩
set_option maxRecDepth 100000 in
set_option maxHeartbeats 4000000 in
theorem m_message (l : Launch) {S : St} {J : aH} {m x : Int32} (h48 : ct S 48 900) : AM l yX9_message cX9_message 3 (some .int) (rmm 1 0 0 25) [.ref mO, .int m, .int x] (ovl S J) (fun r I' => r = some (.int (q_message S m x)) ∧ I' = ovl S J) := by
  obtain ⟨N8, hN8, e8⟩ := id h48
  refine AM_of RX9 (by decide) rfl [some (.ref mO), some (.int m), some (.int x)] rfl (Nat.le_of_ble_eq_true rfl) (fun Z X hNm => ?_)
  refine V_iload_n X dX9_message_0 rfl ?_
  refine V_i2l X dX9_message_1 ?_
  refine V_lconst (v := 0) X dX9_message_2 (by decide) ?_
  refine V_aload_n X dX9_message_3 rfl rfl ?_
  refine M_geti X dX9_message_4 fk_X9_205 (by decide) rfl ?_
  refine V_iconst (v := 1) X dX9_message_7 (by decide) ?_
  refine V_isub X dX9_message_8 ?_
  refine V_i2l X dX9_message_9 ?_
  refine V_callS3 X dX9_message_10 mk_X9_171 st_X9_in (c_inX l (N := N8) (by omega) e8) (Nat.le_of_ble_eq_true rfl) ⟨Nat.le_of_ble_eq_true rfl, Nat.le_of_ble_eq_true rfl⟩ ?_ ?_
  · exact ⟨by dsimp only [rmm]; omega, by dsimp only [rmm]; omega⟩
  rintro r I1 ⟨rfl, rfl⟩
  refine V_if_ne X dX9_message_13 19 (by decide) (fun c_13 => ?_) (fun c_13 => ?_)
  · have h_13 := bz_t c_13
    refine V_iload_n X dX9_message_19 rfl ?_
    by_cases t_20_0 : x = 0
    · refine V_tableIn (off := 36) X dX9_message_20 (by rw [t_20_0]; decide) (by rw [t_20_0]; decide) (by rw [t_20_0]; rfl) 56 (by decide) ?_
      refine V_aload_n X dX9_message_56 rfl rfl ?_
      refine M_geta X dX9_message_57 fk_X9_135 (by decide) rfl ?_
      refine V_iload_n X dX9_message_60 rfl ?_
      refine M_iald X dX9_message_61 (by decide) rfl (ms_in h48 h_13) ?_
      refine V_iret X dX9_message_62 ?_ ?_ ?_ ?_
      · exact rfl
      · dsimp only [rmm]; omega
      · dsimp only [rmm]; omega
      exact ⟨by simp only [q_message, if_pos h_13, if_pos t_20_0], rfl⟩
    by_cases t_20_1 : x = 1
    · refine V_tableIn (off := 43) X dX9_message_20 (by rw [t_20_1]; decide) (by rw [t_20_1]; decide) (by rw [t_20_1]; rfl) 63 (by decide) ?_
      refine V_aload_n X dX9_message_63 rfl rfl ?_
      refine M_geta X dX9_message_64 fk_X9_138 (by decide) rfl ?_
      refine V_iload_n X dX9_message_67 rfl ?_
      refine M_iald X dX9_message_68 (by decide) rfl (ms_in h48 h_13) ?_
      refine V_iret X dX9_message_69 ?_ ?_ ?_ ?_
      · exact rfl
      · dsimp only [rmm]; omega
      · dsimp only [rmm]; omega
      exact ⟨by simp only [q_message, if_pos h_13, if_neg t_20_0, if_pos t_20_1], rfl⟩
    by_cases t_20_2 : x = 2
    · refine V_tableIn (off := 50) X dX9_message_20 (by rw [t_20_2]; decide) (by rw [t_20_2]; decide) (by rw [t_20_2]; rfl) 70 (by decide) ?_
      refine V_aload_n X dX9_message_70 rfl rfl ?_
      refine M_geta X dX9_message_71 fk_X9_141 (by decide) rfl ?_
      refine V_iload_n X dX9_message_74 rfl ?_
      refine M_iald X dX9_message_75 (by decide) rfl (ms_in h48 h_13) ?_
      refine V_iret X dX9_message_76 ?_ ?_ ?_ ?_
      · exact rfl
      · dsimp only [rmm]; omega
      · dsimp only [rmm]; omega
      exact ⟨by simp only [q_message, if_pos h_13, if_neg t_20_0, if_neg t_20_1, if_pos t_20_2], rfl⟩
    by_cases t_20_3 : x = 3
    · refine V_tableIn (off := 57) X dX9_message_20 (by rw [t_20_3]; decide) (by rw [t_20_3]; decide) (by rw [t_20_3]; rfl) 77 (by decide) ?_
      refine V_aload_n X dX9_message_77 rfl rfl ?_
      refine M_geta X dX9_message_78 fk_X9_144 (by decide) rfl ?_
      refine V_iload_n X dX9_message_81 rfl ?_
      refine M_zald X dX9_message_82 (by decide) rfl (ms_in h48 h_13) ?_
      refine V_if_eq X dX9_message_83 90 (by decide) (fun c_83 => ?_) (fun c_83 => ?_)
      · refine V_iconst (v := 0) X dX9_message_90 (by decide) ?_
        refine V_iret X dX9_message_91 ?_ ?_ ?_ ?_
        · exact rfl
        · dsimp only [rmm]; omega
        · dsimp only [rmm]; omega
        exact ⟨by simp only [q_message, if_pos h_13, if_neg t_20_0, if_neg t_20_1, if_neg t_20_2, if_pos t_20_3, if_pos c_83], rfl⟩
      refine V_iconst (v := 1) X dX9_message_86 (by decide) ?_
      refine V_goto X dX9_message_87 91 (by decide) ?_
      refine V_iret X dX9_message_91 ?_ ?_ ?_ ?_
      · exact rfl
      · dsimp only [rmm]; omega
      · dsimp only [rmm]; omega
      exact ⟨by simp only [q_message, if_pos h_13, if_neg t_20_0, if_neg t_20_1, if_neg t_20_2, if_pos t_20_3, if_neg c_83], rfl⟩
    by_cases t_20_4 : x = 4
    · refine V_tableIn (off := 72) X dX9_message_20 (by rw [t_20_4]; decide) (by rw [t_20_4]; decide) (by rw [t_20_4]; rfl) 92 (by decide) ?_
      refine V_aload_n X dX9_message_92 rfl rfl ?_
      refine M_geta X dX9_message_93 fk_X9_147 (by decide) rfl ?_
      refine V_iload_n X dX9_message_96 rfl ?_
      refine M_iald X dX9_message_97 (by decide) rfl (ms_in h48 h_13) ?_
      refine V_iret X dX9_message_98 ?_ ?_ ?_ ?_
      · exact rfl
      · dsimp only [rmm]; omega
      · dsimp only [rmm]; omega
      exact ⟨by simp only [q_message, if_pos h_13, if_neg t_20_0, if_neg t_20_1, if_neg t_20_2, if_neg t_20_3, if_pos t_20_4], rfl⟩
    have n_20_0 : (x).toInt ≠ 0 := fun q => t_20_0 ((fa_eq _ _).mpr (q.trans rfl))
    have n_20_1 : (x).toInt ≠ 1 := fun q => t_20_1 ((fa_eq _ _).mpr (q.trans rfl))
    have n_20_2 : (x).toInt ≠ 2 := fun q => t_20_2 ((fa_eq _ _).mpr (q.trans rfl))
    have n_20_3 : (x).toInt ≠ 3 := fun q => t_20_3 ((fa_eq _ _).mpr (q.trans rfl))
    have n_20_4 : (x).toInt ≠ 4 := fun q => t_20_4 ((fa_eq _ _).mpr (q.trans rfl))
    refine V_tableOut X dX9_message_20 (by omega) 99 (by decide) ?_
    refine V_iload_n X dX9_message_99 rfl ?_
    refine V_iconst (v := 5) X dX9_message_100 (by decide) ?_
    refine V_icmp_ne X dX9_message_101 121 (by decide) (fun c_101 => ?_) (fun c_101 => ?_)
    · refine V_bipush (v := (-9)) X dX9_message_121 (by decide) ?_
      refine V_iret X dX9_message_123 ?_ ?_ ?_ ?_
      · exact rfl
      · dsimp only [rmm]; omega
      · dsimp only [rmm]; omega
      exact ⟨by simp only [q_message, if_pos h_13, if_neg t_20_0, if_neg t_20_1, if_neg t_20_2, if_neg t_20_3, if_neg t_20_4, if_neg c_101], rfl⟩
    refine V_aload_n X dX9_message_104 rfl rfl ?_
    refine M_geta X dX9_message_105 fk_X9_150 (by decide) rfl ?_
    refine V_iload_n X dX9_message_108 rfl ?_
    refine M_zald X dX9_message_109 (by decide) rfl (ms_in h48 h_13) ?_
    refine V_if_eq X dX9_message_110 117 (by decide) (fun c_110 => ?_) (fun c_110 => ?_)
    · refine V_iconst (v := 0) X dX9_message_117 (by decide) ?_
      refine V_goto X dX9_message_118 123 (by decide) ?_
      refine V_iret X dX9_message_123 ?_ ?_ ?_ ?_
      · exact rfl
      · dsimp only [rmm]; omega
      · dsimp only [rmm]; omega
      exact ⟨by simp only [q_message, if_pos h_13, if_neg t_20_0, if_neg t_20_1, if_neg t_20_2, if_neg t_20_3, if_neg t_20_4, if_pos c_101, if_pos c_110], rfl⟩
    refine V_iconst (v := 1) X dX9_message_113 (by decide) ?_
    refine V_goto X dX9_message_114 123 (by decide) ?_
    refine V_iret X dX9_message_123 ?_ ?_ ?_ ?_
    · exact rfl
    · dsimp only [rmm]; omega
    · dsimp only [rmm]; omega
    exact ⟨by simp only [q_message, if_pos h_13, if_neg t_20_0, if_neg t_20_1, if_neg t_20_2, if_neg t_20_3, if_neg t_20_4, if_pos c_101, if_neg c_110], rfl⟩
  have h_13 := bz_f c_13
  refine V_bipush (v := (-9)) X dX9_message_16 (by decide) ?_
  refine V_iret X dX9_message_18 ?_ ?_ ?_ ?_
  · exact rfl
  · dsimp only [rmm]; omega
  · dsimp only [rmm]; omega
  exact ⟨by simp only [q_message, if_neg h_13], rfl⟩
set_option maxRecDepth 100000 in
set_option maxHeartbeats 4000000 in
theorem m_entry (l : Launch) {S : St} {J : aH} {m i x : Int32} (h48 : ct S 48 900) (h51 : ∀ j, j < nn (S.1 48 0) → ∃ N, N ≤ 40 ∧ S.1 51 j = nI N) : AM l yX9_entry cX9_entry 5 (some .long) (rmm 1 0 0 25) [.ref mO, .int m, .int i, .int x] (ovl S J) (fun r I' => r = some (.long (q_entry S m i x)) ∧ I' = ovl S J) := by
  obtain ⟨N8, hN8, e8⟩ := id h48
  refine AM_of RX9 (by decide) rfl [some (.ref mO), some (.int m), some (.int i), some (.int x), none] rfl (Nat.le_of_ble_eq_true rfl) (fun Z X hNm => ?_)
  refine V_iload_n X dX9_entry_0 rfl ?_
  refine V_i2l X dX9_entry_1 ?_
  refine V_lconst (v := 0) X dX9_entry_2 (by decide) ?_
  refine V_aload_n X dX9_entry_3 rfl rfl ?_
  refine M_geti X dX9_entry_4 fk_X9_205 (by decide) rfl ?_
  refine V_iconst (v := 1) X dX9_entry_7 (by decide) ?_
  refine V_isub X dX9_entry_8 ?_
  refine V_i2l X dX9_entry_9 ?_
  refine V_callS3 X dX9_entry_10 mk_X9_171 st_X9_in (c_inX l (N := N8) (by omega) e8) (Nat.le_of_ble_eq_true rfl) ⟨Nat.le_of_ble_eq_true rfl, Nat.le_of_ble_eq_true rfl⟩ ?_ ?_
  · exact ⟨by dsimp only [rmm]; omega, by dsimp only [rmm]; omega⟩
  rintro r I1 ⟨rfl, rfl⟩
  refine V_if_eq X dX9_entry_13 34 (by decide) (fun c_13 => ?_) (fun c_13 => ?_)
  · have h_13 := bz_f c_13
    refine V_ldc2 X dX9_entry_34 kc_X9_302 ?_
    refine V_lret X dX9_entry_37 ?_ ?_ ?_
    · dsimp only [rmm]; omega
    · dsimp only [rmm]; omega
    exact ⟨by simp only [q_entry, if_neg h_13], rfl⟩
  have h_13 := bz_t c_13
  obtain ⟨a, ha, ea⟩ := lt_of_in (ms_in h48 h_13) (by decide)
  obtain ⟨N, hN, eN⟩ := h51 a (by rw [e8, show nn (nI N8) = N8 from nI_clamp (by omega)]; exact Nat.not_le.mp (fun q => absurd h_13.2 (by rw [ea, e8]; exact nI_nlt q (by omega))))
  have en : m.toNatClampNeg = a := by rw [ea]; exact nI_clamp (by omega)
  refine V_iload_n X dX9_entry_16 rfl ?_
  refine V_i2l X dX9_entry_17 ?_
  refine V_lconst (v := 0) X dX9_entry_18 (by decide) ?_
  refine V_aload_n X dX9_entry_19 rfl rfl ?_
  refine M_geta X dX9_entry_20 fk_X9_141 (by decide) rfl ?_
  refine V_iload_n X dX9_entry_23 rfl ?_
  refine M_iald X dX9_entry_24 (by decide) rfl (ms_in h48 h_13) ?_
  refine V_iconst (v := 1) X dX9_entry_25 (by decide) ?_
  refine V_isub X dX9_entry_26 ?_
  refine V_i2l X dX9_entry_27 ?_
  refine V_callS3 X dX9_entry_28 mk_X9_171 st_X9_in (c_inX l (N := N) (by omega) (by rw [show m.toNatClampNeg = a from en]; exact eN)) (Nat.le_of_ble_eq_true rfl) ⟨Nat.le_of_ble_eq_true rfl, Nat.le_of_ble_eq_true rfl⟩ ?_ ?_
  · exact ⟨by dsimp only [rmm]; omega, by dsimp only [rmm]; omega⟩
  rintro r I1 ⟨rfl, rfl⟩
  refine V_if_ne X dX9_entry_31 38 (by decide) (fun c_31 => ?_) (fun c_31 => ?_)
  · have h_31 := bz_t c_31
    have h31 := h_31
    rw [en, eN] at h31
    obtain ⟨b, hb, eb⟩ := ix_of h31.1 h31.2 (by omega)
    refine V_bipush (v := 40) X dX9_entry_38 (by decide) ?_
    refine V_iload_n X dX9_entry_40 rfl ?_
    refine V_imul X dX9_entry_41 ?_
    refine V_iload_n X dX9_entry_42 rfl ?_
    refine V_iadd X dX9_entry_43 ?_
    refine V_istore X dX9_entry_44 (by decide) rfl ?_
    refine V_iload_n X dX9_entry_46 rfl ?_
    refine V_if_ne X dX9_entry_47 60 (by decide) (fun c_47 => ?_) (fun c_47 => ?_)
    · refine V_iload_n X dX9_entry_60 rfl ?_
      refine V_iconst (v := 1) X dX9_entry_61 (by decide) ?_
      refine V_icmp_ne X dX9_entry_62 76 (by decide) (fun c_62 => ?_) (fun c_62 => ?_)
      · refine V_iload_n X dX9_entry_76 rfl ?_
        refine V_iconst (v := 2) X dX9_entry_77 (by decide) ?_
        refine V_icmp_ne X dX9_entry_78 92 (by decide) (fun c_78 => ?_) (fun c_78 => ?_)
        · refine V_iload_n X dX9_entry_92 rfl ?_
          refine V_iconst (v := 3) X dX9_entry_93 (by decide) ?_
          refine V_icmp_ne X dX9_entry_94 108 (by decide) (fun c_94 => ?_) (fun c_94 => ?_)
          · refine V_ldc2 X dX9_entry_108 kc_X9_302 ?_
            refine V_lret X dX9_entry_111 ?_ ?_ ?_
            · dsimp only [rmm]; omega
            · dsimp only [rmm]; omega
            exact ⟨by simp only [q_entry, if_pos h_13, if_pos h_31, if_neg c_47, if_neg c_62, if_neg c_78, if_neg c_94], rfl⟩
          refine V_aload_n X dX9_entry_97 rfl rfl ?_
          refine M_geta X dX9_entry_98 fk_X9_163 (by decide) rfl ?_
          refine V_iload X dX9_entry_101 rfl ?_
          refine M_iald X dX9_entry_103 (by decide) rfl (by rw [ea, eb, show (40 : Int32) = nI 40 from rfl, cell_eq]; exact vp_in_nI2 (by omega) (by omega)) ?_
          refine V_i2l X dX9_entry_104 ?_
          refine V_goto X dX9_entry_105 111 (by decide) ?_
          refine V_lret X dX9_entry_111 ?_ ?_ ?_
          · dsimp only [rmm]; omega
          · dsimp only [rmm]; omega
          exact ⟨by simp only [q_entry, if_pos h_13, if_pos h_31, if_neg c_47, if_neg c_62, if_neg c_78, if_pos c_94], rfl⟩
        refine V_aload_n X dX9_entry_81 rfl rfl ?_
        refine M_geta X dX9_entry_82 fk_X9_160 (by decide) rfl ?_
        refine V_iload X dX9_entry_85 rfl ?_
        refine M_iald X dX9_entry_87 (by decide) rfl (by rw [ea, eb, show (40 : Int32) = nI 40 from rfl, cell_eq]; exact vp_in_nI2 (by omega) (by omega)) ?_
        refine V_i2l X dX9_entry_88 ?_
        refine V_goto X dX9_entry_89 111 (by decide) ?_
        refine V_lret X dX9_entry_111 ?_ ?_ ?_
        · dsimp only [rmm]; omega
        · dsimp only [rmm]; omega
        exact ⟨by simp only [q_entry, if_pos h_13, if_pos h_31, if_neg c_47, if_neg c_62, if_pos c_78], rfl⟩
      refine V_aload_n X dX9_entry_65 rfl rfl ?_
      refine M_geta X dX9_entry_66 fk_X9_157 (by decide) rfl ?_
      refine V_iload X dX9_entry_69 rfl ?_
      refine M_iald X dX9_entry_71 (by decide) rfl (by rw [ea, eb, show (40 : Int32) = nI 40 from rfl, cell_eq]; exact vp_in_nI2 (by omega) (by omega)) ?_
      refine V_i2l X dX9_entry_72 ?_
      refine V_goto X dX9_entry_73 111 (by decide) ?_
      refine V_lret X dX9_entry_111 ?_ ?_ ?_
      · dsimp only [rmm]; omega
      · dsimp only [rmm]; omega
      exact ⟨by simp only [q_entry, if_pos h_13, if_pos h_31, if_neg c_47, if_pos c_62], rfl⟩
    refine V_aload_n X dX9_entry_50 rfl rfl ?_
    refine M_geta X dX9_entry_51 fk_X9_154 (by decide) rfl ?_
    refine V_iload X dX9_entry_54 rfl ?_
    refine M_lald X dX9_entry_56 (by decide) rfl (by rw [ea, eb, show (40 : Int32) = nI 40 from rfl, cell_eq]; exact vp_in_nI2 (by omega) (by omega)) ?_
    refine V_goto X dX9_entry_57 111 (by decide) ?_
    refine V_lret X dX9_entry_111 ?_ ?_ ?_
    · dsimp only [rmm]; omega
    · dsimp only [rmm]; omega
    exact ⟨by simp only [q_entry, if_pos h_13, if_pos h_31, if_pos c_47], rfl⟩
  have h_31 := bz_f c_31
  refine V_ldc2 X dX9_entry_34 kc_X9_302 ?_
  refine V_lret X dX9_entry_37 ?_ ?_ ?_
  · dsimp only [rmm]; omega
  · dsimp only [rmm]; omega
  exact ⟨by simp only [q_entry, if_pos h_13, if_neg h_31], rfl⟩
set_option maxRecDepth 100000 in
set_option maxHeartbeats 4000000 in
theorem m_itemOf (l : Launch) {S : St} {J : aH} {i x : Int32} (h32 : ct S 32 60) : AM l yX9_itemOf cX9_itemOf 3 (some .int) (rmm 1 0 0 25) [.ref mO, .int i, .int x] (ovl S J) (fun r I' => r = some (.int (q_itemOf S i x)) ∧ I' = ovl S J) := by
  obtain ⟨N8, hN8, e8⟩ := id h32
  refine AM_of RX9 (by decide) rfl [some (.ref mO), some (.int i), some (.int x)] rfl (Nat.le_of_ble_eq_true rfl) (fun Z X hNm => ?_)
  refine V_iload_n X dX9_itemOf_0 rfl ?_
  refine V_i2l X dX9_itemOf_1 ?_
  refine V_lconst (v := 0) X dX9_itemOf_2 (by decide) ?_
  refine V_aload_n X dX9_itemOf_3 rfl rfl ?_
  refine M_geti X dX9_itemOf_4 fk_X9_202 (by decide) rfl ?_
  refine V_iconst (v := 1) X dX9_itemOf_7 (by decide) ?_
  refine V_isub X dX9_itemOf_8 ?_
  refine V_i2l X dX9_itemOf_9 ?_
  refine V_callS3 X dX9_itemOf_10 mk_X9_171 st_X9_in (c_inX l (N := N8) (by omega) e8) (Nat.le_of_ble_eq_true rfl) ⟨Nat.le_of_ble_eq_true rfl, Nat.le_of_ble_eq_true rfl⟩ ?_ ?_
  · exact ⟨by dsimp only [rmm]; omega, by dsimp only [rmm]; omega⟩
  rintro r I1 ⟨rfl, rfl⟩
  refine V_if_eq X dX9_itemOf_13 25 (by decide) (fun c_13 => ?_) (fun c_13 => ?_)
  · have h_13 := bz_f c_13
    refine V_bipush (v := (-9)) X dX9_itemOf_25 (by decide) ?_
    refine V_iret X dX9_itemOf_27 ?_ ?_ ?_ ?_
    · exact rfl
    · dsimp only [rmm]; omega
    · dsimp only [rmm]; omega
    exact ⟨by simp only [q_itemOf, if_neg h_13], rfl⟩
  have h_13 := bz_t c_13
  obtain ⟨a, ha, ea⟩ := lt_of_in (it_in h32 h_13) (by decide)
  refine V_aload_n X dX9_itemOf_16 rfl rfl ?_
  refine M_geta X dX9_itemOf_17 fk_X9_90 (by decide) rfl ?_
  refine V_iload_n X dX9_itemOf_20 rfl ?_
  refine M_zald X dX9_itemOf_21 (by decide) rfl (it_in h32 h_13) ?_
  refine V_if_ne X dX9_itemOf_22 28 (by decide) (fun c_22 => ?_) (fun c_22 => ?_)
  · refine V_iload_n X dX9_itemOf_28 rfl ?_
    refine V_if_ne X dX9_itemOf_29 41 (by decide) (fun c_29 => ?_) (fun c_29 => ?_)
    · refine V_iload_n X dX9_itemOf_41 rfl ?_
      refine V_iconst (v := 1) X dX9_itemOf_42 (by decide) ?_
      refine V_icmp_ne X dX9_itemOf_43 55 (by decide) (fun c_43 => ?_) (fun c_43 => ?_)
      · refine V_iload_n X dX9_itemOf_55 rfl ?_
        refine V_iconst (v := 2) X dX9_itemOf_56 (by decide) ?_
        refine V_icmp_ne X dX9_itemOf_57 69 (by decide) (fun c_57 => ?_) (fun c_57 => ?_)
        · refine V_iload_n X dX9_itemOf_69 rfl ?_
          refine V_iconst (v := 3) X dX9_itemOf_70 (by decide) ?_
          refine V_icmp_ne X dX9_itemOf_71 83 (by decide) (fun c_71 => ?_) (fun c_71 => ?_)
          · refine V_iload_n X dX9_itemOf_83 rfl ?_
            refine V_iconst (v := 4) X dX9_itemOf_84 (by decide) ?_
            refine V_icmp_ne X dX9_itemOf_85 113 (by decide) (fun c_85 => ?_) (fun c_85 => ?_)
            · refine V_bipush (v := (-9)) X dX9_itemOf_113 (by decide) ?_
              refine V_iret X dX9_itemOf_115 ?_ ?_ ?_ ?_
              · exact rfl
              · dsimp only [rmm]; omega
              · dsimp only [rmm]; omega
              exact ⟨by simp only [q_itemOf, if_pos h_13, if_neg c_22, if_neg c_29, if_neg c_43, if_neg c_57, if_neg c_71, if_neg c_85], rfl⟩
            refine V_aload_n X dX9_itemOf_88 rfl rfl ?_
            refine M_geta X dX9_itemOf_89 fk_X9_123 (by decide) rfl ?_
            refine V_iload_n X dX9_itemOf_92 rfl ?_
            refine M_iald X dX9_itemOf_93 (by decide) rfl (it_in h32 h_13) ?_
            refine V_if_le X dX9_itemOf_94 109 (by decide) (fun c_94 => ?_) (fun c_94 => ?_)
            · refine V_iconst (v := 0) X dX9_itemOf_109 (by decide) ?_
              refine V_goto X dX9_itemOf_110 115 (by decide) ?_
              refine V_iret X dX9_itemOf_115 ?_ ?_ ?_ ?_
              · exact rfl
              · dsimp only [rmm]; omega
              · dsimp only [rmm]; omega
              exact ⟨by simp only [q_itemOf, if_pos h_13, if_neg c_22, if_neg c_29, if_neg c_43, if_neg c_57, if_neg c_71, if_pos c_85, if_pos c_94], rfl⟩
            refine V_aload_n X dX9_itemOf_97 rfl rfl ?_
            refine M_geta X dX9_itemOf_98 fk_X9_132 (by decide) rfl ?_
            refine V_bipush (v := 8) X dX9_itemOf_101 (by decide) ?_
            refine V_iload_n X dX9_itemOf_103 rfl ?_
            refine V_imul X dX9_itemOf_104 ?_
            refine M_iald X dX9_itemOf_105 (by decide) rfl (by rw [ea, show (8 : Int32) = nI 8 from rfl, pk_mul]; exact vp_in_nI2 (by omega) (by omega)) ?_
            refine V_goto X dX9_itemOf_106 115 (by decide) ?_
            refine V_iret X dX9_itemOf_115 ?_ ?_ ?_ ?_
            · exact rfl
            · dsimp only [rmm]; omega
            · dsimp only [rmm]; omega
            exact ⟨by simp only [q_itemOf, if_pos h_13, if_neg c_22, if_neg c_29, if_neg c_43, if_neg c_57, if_neg c_71, if_pos c_85, if_neg c_94], rfl⟩
          refine V_aload_n X dX9_itemOf_74 rfl rfl ?_
          refine M_geta X dX9_itemOf_75 fk_X9_123 (by decide) rfl ?_
          refine V_iload_n X dX9_itemOf_78 rfl ?_
          refine M_iald X dX9_itemOf_79 (by decide) rfl (it_in h32 h_13) ?_
          refine V_goto X dX9_itemOf_80 115 (by decide) ?_
          refine V_iret X dX9_itemOf_115 ?_ ?_ ?_ ?_
          · exact rfl
          · dsimp only [rmm]; omega
          · dsimp only [rmm]; omega
          exact ⟨by simp only [q_itemOf, if_pos h_13, if_neg c_22, if_neg c_29, if_neg c_43, if_neg c_57, if_pos c_71], rfl⟩
        refine V_aload_n X dX9_itemOf_60 rfl rfl ?_
        refine M_geta X dX9_itemOf_61 fk_X9_111 (by decide) rfl ?_
        refine V_iload_n X dX9_itemOf_64 rfl ?_
        refine M_iald X dX9_itemOf_65 (by decide) rfl (it_in h32 h_13) ?_
        refine V_goto X dX9_itemOf_66 115 (by decide) ?_
        refine V_iret X dX9_itemOf_115 ?_ ?_ ?_ ?_
        · exact rfl
        · dsimp only [rmm]; omega
        · dsimp only [rmm]; omega
        exact ⟨by simp only [q_itemOf, if_pos h_13, if_neg c_22, if_neg c_29, if_neg c_43, if_pos c_57], rfl⟩
      refine V_aload_n X dX9_itemOf_46 rfl rfl ?_
      refine M_geta X dX9_itemOf_47 fk_X9_96 (by decide) rfl ?_
      refine V_iload_n X dX9_itemOf_50 rfl ?_
      refine M_iald X dX9_itemOf_51 (by decide) rfl (it_in h32 h_13) ?_
      refine V_goto X dX9_itemOf_52 115 (by decide) ?_
      refine V_iret X dX9_itemOf_115 ?_ ?_ ?_ ?_
      · exact rfl
      · dsimp only [rmm]; omega
      · dsimp only [rmm]; omega
      exact ⟨by simp only [q_itemOf, if_pos h_13, if_neg c_22, if_neg c_29, if_pos c_43], rfl⟩
    refine V_aload_n X dX9_itemOf_32 rfl rfl ?_
    refine M_geta X dX9_itemOf_33 fk_X9_93 (by decide) rfl ?_
    refine V_iload_n X dX9_itemOf_36 rfl ?_
    refine M_iald X dX9_itemOf_37 (by decide) rfl (it_in h32 h_13) ?_
    refine V_goto X dX9_itemOf_38 115 (by decide) ?_
    refine V_iret X dX9_itemOf_115 ?_ ?_ ?_ ?_
    · exact rfl
    · dsimp only [rmm]; omega
    · dsimp only [rmm]; omega
    exact ⟨by simp only [q_itemOf, if_pos h_13, if_neg c_22, if_pos c_29], rfl⟩
  refine V_bipush (v := (-9)) X dX9_itemOf_25 (by decide) ?_
  refine V_iret X dX9_itemOf_27 ?_ ?_ ?_ ?_
  · exact rfl
  · dsimp only [rmm]; omega
  · dsimp only [rmm]; omega
  exact ⟨by simp only [q_itemOf, if_pos h_13, if_pos c_22], rfl⟩
