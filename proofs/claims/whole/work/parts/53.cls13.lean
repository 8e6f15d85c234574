/-! sample, switchTo, mode, drop -/
set_option maxRecDepth 100000 in
set_option maxHeartbeats 4000000 in
theorem n_en (l : Launch) {I : aH} {i n : Nat} {v : Int64} {a t : Int32} (h : I (kd 9 i n) = some (.inr (1, [.long 0, .int 0, .int 0, .int 0]))) : AM l yX0_init cX0_init 5 none (rmm 1 0 0 30) [.ref (kd 9 i n), .long v, .int a, .int t] I (fun r I' => r = none ∧ I' = hu I (kd 9 i n) (.inr (1, [.long v, .int a, .int t, .int 0]))) := by
  refine AM_of RX0 (by decide) rfl [some (.ref (kd 9 i n)), some (.long v), none, some (.int a), some (.int t)] rfl (Nat.le_of_ble_eq_true rfl) (fun Z X hNm => ?_)
  refine V_aload_n X dX0_init_0 rfl rfl ?_
  refine V_objInit X dX0_init_1 ol_X0_1 ob_i ob_c (Nat.le_of_ble_eq_true rfl) (Nat.le_of_ble_eq_true rfl) ?_
  refine V_aload_n X dX0_init_4 rfl rfl ?_
  refine V_iconst (v := 0) X dX0_init_5 (by decide) ?_
  apply V_put X dX0_init_6 fk_X0_7
  · first | assumption | exact hu_s | exact (hu_n (by first | exact kd_nk (by decide) | exact kd_ni (by omega) | exact kd_ng (by omega) | assumption | exact Ne.symm (by assumption))).trans (by first | assumption | exact hu_s | exact (hu_n (by first | exact kd_nk (by decide) | exact kd_ni (by omega) | exact kd_ng (by omega) | assumption | exact Ne.symm (by assumption))).trans (by first | assumption | exact hu_s | exact (hu_n (by first | exact kd_nk (by decide) | exact kd_ni (by omega) | exact kd_ng (by omega) | assumption | exact Ne.symm (by assumption))).trans (by first | assumption | exact hu_s)))
  · exact ro_k (by decide)
  · exact Nat.le_of_ble_eq_true rfl
  · exact rfl
  · exact rfl
  refine V_aload_n X dX0_init_9 rfl rfl ?_
  refine V_lload_n X dX0_init_10 rfl ?_
  apply V_putF X hNm dX0_init_11 fp_X0_13
  · first | assumption | exact hu_s | exact (hu_n (by first | exact kd_nk (by decide) | exact kd_ni (by omega) | exact kd_ng (by omega) | assumption | exact Ne.symm (by assumption))).trans (by first | assumption | exact hu_s | exact (hu_n (by first | exact kd_nk (by decide) | exact kd_ni (by omega) | exact kd_ng (by omega) | assumption | exact Ne.symm (by assumption))).trans (by first | assumption | exact hu_s | exact (hu_n (by first | exact kd_nk (by decide) | exact kd_ni (by omega) | exact kd_ng (by omega) | assumption | exact Ne.symm (by assumption))).trans (by first | assumption | exact hu_s)))
  · exact ro_k (by decide)
  · exact Nat.le_of_ble_eq_true rfl
  · exact rfl
  · exact rfl
  refine V_aload_n X dX0_init_14 rfl rfl ?_
  refine V_iload_n X dX0_init_15 rfl ?_
  apply V_putF X hNm dX0_init_16 fp_X0_17
  · first | assumption | exact hu_s | exact (hu_n (by first | exact kd_nk (by decide) | exact kd_ni (by omega) | exact kd_ng (by omega) | assumption | exact Ne.symm (by assumption))).trans (by first | assumption | exact hu_s | exact (hu_n (by first | exact kd_nk (by decide) | exact kd_ni (by omega) | exact kd_ng (by omega) | assumption | exact Ne.symm (by assumption))).trans (by first | assumption | exact hu_s | exact (hu_n (by first | exact kd_nk (by decide) | exact kd_ni (by omega) | exact kd_ng (by omega) | assumption | exact Ne.symm (by assumption))).trans (by first | assumption | exact hu_s)))
  · exact ro_k (by decide)
  · exact Nat.le_of_ble_eq_true rfl
  · exact rfl
  · exact rfl
  refine V_aload_n X dX0_init_19 rfl rfl ?_
  refine V_iload X dX0_init_20 rfl ?_
  apply V_putF X hNm dX0_init_22 fp_X0_21
  · first | assumption | exact hu_s | exact (hu_n (by first | exact kd_nk (by decide) | exact kd_ni (by omega) | exact kd_ng (by omega) | assumption | exact Ne.symm (by assumption))).trans (by first | assumption | exact hu_s | exact (hu_n (by first | exact kd_nk (by decide) | exact kd_ni (by omega) | exact kd_ng (by omega) | assumption | exact Ne.symm (by assumption))).trans (by first | assumption | exact hu_s | exact (hu_n (by first | exact kd_nk (by decide) | exact kd_ni (by omega) | exact kd_ng (by omega) | assumption | exact Ne.symm (by assumption))).trans (by first | assumption | exact hu_s)))
  · exact ro_k (by decide)
  · exact Nat.le_of_ble_eq_true rfl
  · exact rfl
  · exact rfl
  refine V_vret X dX0_init_25 ?_ ?_ ?_
  · dsimp only [rmm]; omega
  · dsimp only [rmm]; omega
  exact ⟨rfl, by rw [hu_hu, hu_hu, hu_hu]; rfl⟩
theorem lt_le64 {a b : Int64} (h : a < b) : ¬ b ≤ a := fun q => by
  rw [Int64.lt_iff_toInt_lt] at h
  rw [Int64.le_iff_toInt_le] at q
  omega
theorem nlt_le64 {a b : Int64} (h : ¬ a < b) : b ≤ a := by
  rw [Int64.lt_iff_toInt_lt] at h
  rw [Int64.le_iff_toInt_le]
  omega
theorem ap_eq {v t : Int64} : ((if t < v then v else t) - (if t < v then t else v)) = if v ≤ t then t - v else v - t := by
  by_cases q : t < v
  · rw [if_pos q, if_pos q, if_neg (lt_le64 q)]
  · rw [if_neg q, if_neg q, if_pos (nlt_le64 q)]
set_option maxRecDepth 100000 in
set_option maxHeartbeats 4000000 in
theorem k_beyond (l : Launch) {S : St} {J : aH} {i : Nat} {v : Int64} (hi : i < nn (S.1 32 0)) : AM l yX1_isBeyondBand cX1_isBeyondBand 5 (some .boolean) (rmm 1 0 0 23) [.ref (kd 6 i 0), .long v] (ovc S J) (fun r I' => r = some (.int (if ¬ (if v ≤ S.2 43 i then S.2 43 i - v else v - S.2 43 i) < 0 ∧ ¬ S.2 41 i < (if v ≤ S.2 43 i then S.2 43 i - v else v - S.2 43 i) then 0 else 1)) ∧ I' = ovc S J) := by
  refine AM_of RX1 (by decide) rfl [some (.ref (kd 6 i 0)), some (.long v), none, none, none] rfl (Nat.le_of_ble_eq_true rfl) (fun Z X hNm => ?_)
  refine V_lload_n X dX1_isBeyondBand_0 rfl ?_
  refine V_aload_n X dX1_isBeyondBand_1 rfl rfl ?_
  apply V_get X dX1_isBeyondBand_2 fk_X1_17
  · exact at_it (hi)
  · exact rfl
  refine V_mmaxL X dX1_isBeyondBand_5 mk_X1_87.1 (Nat.le_of_ble_eq_true rfl) (Nat.le_of_ble_eq_true rfl) ?_ ?_ ?_
  · dsimp only [rmm]; omega
  · dsimp only [rmm]; omega
  refine V_lload_n X dX1_isBeyondBand_8 rfl ?_
  refine V_aload_n X dX1_isBeyondBand_9 rfl rfl ?_
  apply V_get X dX1_isBeyondBand_10 fk_X1_17
  · exact at_it (hi)
  · exact rfl
  refine V_mminL X dX1_isBeyondBand_13 mk_X1_93.1 (Nat.le_of_ble_eq_true rfl) (Nat.le_of_ble_eq_true rfl) ?_ ?_ ?_
  · dsimp only [rmm]; omega
  · dsimp only [rmm]; omega
  refine V_lsub X dX1_isBeyondBand_16 ?_
  rw [ap_eq]
  refine V_lstore_n X dX1_isBeyondBand_17 (by decide) rfl ?_
  refine V_lload_n X dX1_isBeyondBand_18 rfl ?_
  refine V_lconst (v := 0) X dX1_isBeyondBand_19 (by decide) ?_
  refine V_lcmp X dX1_isBeyondBand_20 ?_
  refine V_if_lt X dX1_isBeyondBand_21 33 (by decide) (fun c_21 => ?_) (fun c_21 => ?_)
  · rw [lg_cmp_lt] at c_21
    refine V_iconst (v := 1) X dX1_isBeyondBand_33 (by decide) ?_
    refine V_goto X dX1_isBeyondBand_34 38 (by decide) ?_
    refine V_iret X dX1_isBeyondBand_38 ?_ ?_ ?_ ?_
    · exact rfl
    · dsimp only [rmm]; omega
    · dsimp only [rmm]; omega
    exact ⟨by rw [if_neg (fun q => q.1 c_21)], rfl⟩
  rw [lg_cmp_lt] at c_21
  refine V_lload_n X dX1_isBeyondBand_24 rfl ?_
  refine V_aload_n X dX1_isBeyondBand_25 rfl rfl ?_
  apply V_get X dX1_isBeyondBand_26 fk_X1_41
  · exact at_it (hi)
  · exact rfl
  refine V_lcmp X dX1_isBeyondBand_29 ?_
  refine V_if_le X dX1_isBeyondBand_30 37 (by decide) (fun c_30 => ?_) (fun c_30 => ?_)
  · rw [lg_cmp_le] at c_30
    refine V_iconst (v := 0) X dX1_isBeyondBand_37 (by decide) ?_
    refine V_iret X dX1_isBeyondBand_38 ?_ ?_ ?_ ?_
    · exact rfl
    · dsimp only [rmm]; omega
    · dsimp only [rmm]; omega
    exact ⟨by rw [if_pos ⟨c_21, fun q => lt_le64 q c_30⟩], rfl⟩
  rw [lg_cmp_le] at c_30
  refine V_iconst (v := 1) X dX1_isBeyondBand_33 (by decide) ?_
  refine V_goto X dX1_isBeyondBand_34 38 (by decide) ?_
  refine V_iret X dX1_isBeyondBand_38 ?_ ?_ ?_ ?_
  · exact rfl
  · dsimp only [rmm]; omega
  · dsimp only [rmm]; omega
  exact ⟨by rw [if_neg (fun q => c_30 (nlt_le64 q.2))], rfl⟩
set_option maxRecDepth 100000 in
set_option maxHeartbeats 4000000 in
theorem k_sample (l : Launch) {S : St} {Q : Nat → List Nat} {J : aH} {i C D : Nat} {t : Int32} (hi : i < nn (S.1 32 0)) (R : RJ S Q J) (hq8 : ∀ j, j < nn (S.1 32 0) → sm (S.1 44 j) 8) (q : QK S i) (hv : nn (S.1 35 i) < nn (S.1 1 0)) (ht : t = S.1 0 0) (hC : ¬ smC S i → 2 ≤ C ∧ 26 ≤ D) : AM l yX1_sample cX1_sample 4 none (rmm 8 C D 212) [.ref (kd 6 i 0), .int t] (ovc S J) (VQ (sampleS S i) J) := by
  refine AM_of RX1 (by decide) rfl [some (.ref (kd 6 i 0)), some (.int t), none, none] rfl (Nat.le_of_ble_eq_true rfl) (fun Z X hNm => ?_)
  refine V_aload_n X dX1_sample_0 rfl rfl ?_
  apply V_get X dX1_sample_1 fk_X1_31
  · exact at_it (hi)
  · exact rfl
  apply V_get X dX1_sample_4 fk_X1_69
  · exact at_node (hv)
  · exact rfl
  refine V_lstore_n X dX1_sample_7 (by decide) rfl ?_
  refine V_aload_n X dX1_sample_8 rfl rfl ?_
  apply V_get X dX1_sample_9 fk_X1_13
  · exact at_it (hi)
  · exact rfl
  refine V_if_eq X dX1_sample_12 23 (by decide) (fun c_12 => ?_) (fun c_12 => ?_)
  · have hns : ¬ smC S i := fun z => z.1 c_12
    have hC2 := hC hns
    obtain ⟨n, hn, hm⟩ := R.2.2.2.1 i
    refine V_aload_n X dX1_sample_23 rfl rfl ?_
    refine V_iconst (v := 1) X dX1_sample_24 (by decide) ?_
    refine P6_8 X dX1_sample_25 fk_X1_13 (hi) (Or.inr rfl) ?_
    refine V_aload_n X dX1_sample_28 rfl rfl ?_
    refine V_lload_n X dX1_sample_29 rfl ?_
    refine P6_9 X dX1_sample_30 fk_X1_17 (hi) ?_
    change V _ _ (ovc (smA S i) J) _ _ _ _ _
    refine V_aload_n X dX1_sample_33 rfl rfl ?_
    apply V_get X dX1_sample_34 fk_X1_44
    · exact at_it (hi)
    · exact rfl
    refine V_new X dX1_sample_37 nk_X1_78 (kd 9 i n) ?_ ?_ ?_ ?_ ?_ ?_
    · exact (ovc_k rfl).trans (hn n (Nat.le_refl _))
    · exact kd_nk (by decide)
    · exact ro_k (by decide)
    · dsimp only [rmm]; omega
    · dsimp only [rmm]; omega
    refine V_dup X dX1_sample_40 rfl ?_
    refine V_lload_n X dX1_sample_41 rfl ?_
    refine V_aload_n X dX1_sample_42 rfl rfl ?_
    apply V_get X dX1_sample_43 fk_X1_24
    · exact (hu_n (kd_nk (by decide))).trans (at_it (S := smA S i) hi)
    · exact rfl
    refine V_iload_n X dX1_sample_46 rfl ?_
    refine V_callI3 X dX1_sample_47 mk_X1_80 ii_X0_init (n_en l hu_s) (Nat.le_of_ble_eq_true rfl) ⟨Nat.le_of_ble_eq_true rfl, Nat.le_of_ble_eq_true rfl⟩ ?_ ?_
    · exact ⟨by dsimp only [rmm]; omega, by dsimp only [rmm]; omega⟩
    rintro r I1 ⟨rfl, rfl⟩
    rw [hu_hu, hu_ovJ rfl, ht]
    apply V_callV1 X dX1_sample_50 mk_X1_83 iv_X4_put (k_put l (T := smA S i) (v := smV S i) hi R.cg hq8 q.cg hn hm)
    · exact at_qu (hi)
    · exact rfl
    · exact Nat.le_of_ble_eq_true rfl
    · exact ⟨Nat.le_of_ble_eq_true rfl, Nat.le_of_ble_eq_true rfl⟩
    · exact ⟨by dsimp only [rmm]; omega, by dsimp only [rmm]; omega⟩
    rintro r I1 ⟨rfl, Q2, J2, rfl, R2, F2⟩
    refine V_vret X dX1_sample_53 ?_ ?_ ?_
    · dsimp only [rmm]; omega
    · dsimp only [rmm]; omega
    refine ⟨rfl, Q2, J2, ?_, ?_, F2⟩
    · rw [sampleS, if_neg hns]
      rfl
    · rw [sampleS, if_neg hns]
      exact R2
  refine V_aload_n X dX1_sample_15 rfl rfl ?_
  refine V_lload_n X dX1_sample_16 rfl ?_
  apply V_callV1 X dX1_sample_17 mk_X1_74 iv_X1_isBeyondBand (k_beyond l hi)
  · exact at_it (hi)
  · exact rfl
  · exact Nat.le_of_ble_eq_true rfl
  · exact ⟨Nat.le_of_ble_eq_true rfl, Nat.le_of_ble_eq_true rfl⟩
  · exact ⟨by dsimp only [rmm]; omega, by dsimp only [rmm]; omega⟩
  rintro r I1 ⟨rfl, rfl⟩
  refine V_if_eq X dX1_sample_20 53 (by decide) (fun c_20 => ?_) (fun c_20 => ?_)
  · have hc : smC S i := by
      by_cases z : ¬ apS S i < 0 ∧ ¬ S.2 41 i < apS S i
      · exact ⟨c_12, z⟩
      · exact absurd (c_20.symm.trans (if_neg z)) (by decide)
    refine V_vret X dX1_sample_53 ?_ ?_ ?_
    · dsimp only [rmm]; omega
    · dsimp only [rmm]; omega
    refine ⟨rfl, Q, J, ?_, ?_, FJ.rf⟩
    · rw [sampleS, if_pos hc]
    · rw [sampleS, if_pos hc]
      exact R
  have hns : ¬ smC S i := fun z => c_20 (if_pos z.2)
  have hC2 := hC hns
  obtain ⟨n, hn, hm⟩ := R.2.2.2.1 i
  refine V_aload_n X dX1_sample_23 rfl rfl ?_
  refine V_iconst (v := 1) X dX1_sample_24 (by decide) ?_
  refine P6_8 X dX1_sample_25 fk_X1_13 (hi) (Or.inr rfl) ?_
  refine V_aload_n X dX1_sample_28 rfl rfl ?_
  refine V_lload_n X dX1_sample_29 rfl ?_
  refine P6_9 X dX1_sample_30 fk_X1_17 (hi) ?_
  change V _ _ (ovc (smA S i) J) _ _ _ _ _
  refine V_aload_n X dX1_sample_33 rfl rfl ?_
  apply V_get X dX1_sample_34 fk_X1_44
  · exact at_it (hi)
  · exact rfl
  refine V_new X dX1_sample_37 nk_X1_78 (kd 9 i n) ?_ ?_ ?_ ?_ ?_ ?_
  · exact (ovc_k rfl).trans (hn n (Nat.le_refl _))
  · exact kd_nk (by decide)
  · exact ro_k (by decide)
  · dsimp only [rmm]; omega
  · dsimp only [rmm]; omega
  refine V_dup X dX1_sample_40 rfl ?_
  refine V_lload_n X dX1_sample_41 rfl ?_
  refine V_aload_n X dX1_sample_42 rfl rfl ?_
  apply V_get X dX1_sample_43 fk_X1_24
  · exact (hu_n (kd_nk (by decide))).trans (at_it (S := smA S i) hi)
  · exact rfl
  refine V_iload_n X dX1_sample_46 rfl ?_
  refine V_callI3 X dX1_sample_47 mk_X1_80 ii_X0_init (n_en l hu_s) (Nat.le_of_ble_eq_true rfl) ⟨Nat.le_of_ble_eq_true rfl, Nat.le_of_ble_eq_true rfl⟩ ?_ ?_
  · exact ⟨by dsimp only [rmm]; omega, by dsimp only [rmm]; omega⟩
  rintro r I1 ⟨rfl, rfl⟩
  rw [hu_hu, hu_ovJ rfl, ht]
  apply V_callV1 X dX1_sample_50 mk_X1_83 iv_X4_put (k_put l (T := smA S i) (v := smV S i) hi R.cg hq8 q.cg hn hm)
  · exact at_qu (hi)
  · exact rfl
  · exact Nat.le_of_ble_eq_true rfl
  · exact ⟨Nat.le_of_ble_eq_true rfl, Nat.le_of_ble_eq_true rfl⟩
  · exact ⟨by dsimp only [rmm]; omega, by dsimp only [rmm]; omega⟩
  rintro r I1 ⟨rfl, Q2, J2, rfl, R2, F2⟩
  refine V_vret X dX1_sample_53 ?_ ?_ ?_
  · dsimp only [rmm]; omega
  · dsimp only [rmm]; omega
  refine ⟨rfl, Q2, J2, ?_, ?_, F2⟩
  · rw [sampleS, if_neg hns]
    rfl
  · rw [sampleS, if_neg hns]
    exact R2
theorem ovc_44 {S : St} {J : aH} {i : Nat} {x : Int32} : ovc S J = ovc (pa S 44 i x) J := by
  refine ovc_ext fun k j hk => ?_
  rcases kO_c hk with rfl | rfl | rfl | rfl | rfl | rfl | rfl | rfl | rfl
  · exact oc1 rfl rfl rfl rfl
  · exact oc2 rfl rfl rfl
  · exact oc3 rfl rfl rfl rfl
  · exact oc4 rfl rfl rfl rfl rfl
  · exact oc5 rfl rfl rfl rfl rfl rfl rfl rfl rfl rfl rfl rfl rfl rfl rfl rfl
  · exact oc6 rfl rfl rfl rfl rfl rfl rfl rfl rfl rfl
  · exact oc7 rfl rfl rfl
  · exact oc8 rfl rfl rfl rfl rfl rfl rfl
  · exact oc11 rfl
theorem RJ.clr {S : St} {Q : Nat → List Nat} {J J1 : aH} {i : Nat} (R : RJ S Q J) (hi : i < nn (S.1 32 0)) (F : Fr 28 i J J1) (L1 : LL J1 28 i []) : RJ (pa S 44 i 0) (uQ Q i []) J1 := by
  obtain ⟨E1, E2, E3, E4, E5, E6⟩ := R.2.fr (k := 28) rfl F
  refine ⟨(R.1.upd (k := 28) rfl F L1).to (lsT ?_ ?_), ?_, ?_, ?_, ?_, E5, E6⟩
  · show (if i < nn (S.1 32 0) then some (quL (uQ Q i []) i) else none) = _
    rw [if_pos hi]
    unfold quL
    rw [uQ_s]
    rfl
  · intro k j hk hne
    rcases lk_c hk with rfl | rfl | rfl | rfl | rfl
    · exact ls20r
    · exact ls22
    · exact ls24
    · exact ls26
    · show (if j < nn (S.1 32 0) then some (quL (uQ Q i []) j) else none) = (if j < nn (S.1 32 0) then some (quL Q j) else none)
      unfold quL
      rw [uQ_n (fun z => hne ⟨rfl, z⟩)]
  · intro j hj
    by_cases e : j = i
    · subst e
      unfold EnQ
      rw [uQ_s, pa_s]
      exact ⟨List.nodup_nil, rfl, fun y hy => absurd hy (Nat.not_lt_zero _)⟩
    · unfold EnQ
      rw [uQ_n e, pa_i _ _ e]
      exact E1 j hj
  · intro j hj
    by_cases e : j = i
    · rw [e, uQ_s]
    · rw [uQ_n e]
      exact E2 j hj
  · intro j
    obtain ⟨n, a, b⟩ := E3 j
    refine ⟨n, a, ?_⟩
    by_cases e : j = i
    · rw [e, uQ_s]
      exact fun g hg => absurd hg List.not_mem_nil
    · rw [uQ_n e]
      exact b
  · intro m hm
    obtain ⟨a, f, b, c⟩ := E4 m hm
    refine ⟨a, f, b, fun j hj => ?_⟩
    obtain ⟨g, c1, c2, c3, c4⟩ := c j hj
    refine ⟨g, c1, ?_, c3, c4⟩
    show g ∉ uQ Q i [] (nn (S.1 56 (40 * m + j)))
    by_cases e : nn (S.1 56 (40 * m + j)) = i
    · rw [e, uQ_s]
      exact List.not_mem_nil
    · rw [uQ_n e]
      exact c2
def swS (S : St) (i : Nat) (m : Int32) : St := if m = 0 then pa (pa (pa S 40 i m) 42 i 0) 44 i 0 else if S.1 40 i = 0 then sampleS (pa S 40 i m) i else pa S 40 i m
theorem swS_k {S : St} {i k j : Nat} {m : Int32} (h : k ≠ 40 ∧ k ≠ 42 ∧ k ≠ 44 ∧ k ≠ 46 ∧ k ≠ 47) : (swS S i m).1 k j = S.1 k j := by
  unfold swS
  split
  · rw [pa_n _ _ h.2.2.1, pa_n _ _ h.2.1, pa_n _ _ h.1]
  · split
    · rw [sampleS_k h.2, pa_n _ _ h.1]
    · exact pa_n _ _ h.1
theorem sm01_ne {m : Int32} (h : ¬ m = 0) : ¬ (1 : Int32) = 0 := by decide
set_option maxRecDepth 100000 in
set_option maxHeartbeats 4000000 in
theorem k_switch (l : Launch) {S : St} {Q : Nat → List Nat} {J : aH} {i : Nat} {m t : Int32} (hi : i < nn (S.1 32 0)) (R : RJ S Q J) (hq8 : ∀ j, j < nn (S.1 32 0) → sm (S.1 44 j) 8) (q : QK S i) (hv : nn (S.1 35 i) < nn (S.1 1 0)) (ht : t = S.1 0 0) : AM l yX1_switchTo cX1_switchTo 4 none (rmm 9 2 26 235) [.ref (kd 6 i 0), .int m, .int t] (ovc S J) (VQ (swS S i m) J) := by
  have h28 := R.que hi
  refine AM_of RX1 (by decide) rfl [some (.ref (kd 6 i 0)), some (.int m), some (.int t), none] rfl (Nat.le_of_ble_eq_true rfl) (fun Z X hNm => ?_)
  refine V_aload_n X dX1_switchTo_0 rfl rfl ?_
  apply V_get X dX1_switchTo_1 fk_X1_9
  · exact at_it (hi)
  · exact rfl
  refine V_if_ne X dX1_switchTo_4 11 (by decide) (fun c_4 => ?_) (fun c_4 => ?_)
  · refine V_iconst (v := 0) X dX1_switchTo_11 (by decide) ?_
    refine V_istore_n X dX1_switchTo_12 (by decide) rfl ?_
    refine V_aload_n X dX1_switchTo_13 rfl rfl ?_
    refine V_iload_n X dX1_switchTo_14 rfl ?_
    refine P6_7 X dX1_switchTo_15 fk_X1_9 (hi) ?_
    refine V_iload_n X dX1_switchTo_18 rfl ?_
    refine V_if_ne X dX1_switchTo_19 40 (by decide) (fun c_19 => ?_) (fun c_19 => ?_)
    · refine V_iload_n X dX1_switchTo_40 rfl ?_
      refine V_if_eq X dX1_switchTo_41 49 (by decide) (fun c_41 => ?_) (fun c_41 => ?_)
      · refine V_vret X dX1_switchTo_49 ?_ ?_ ?_
        · dsimp only [rmm]; omega
        · dsimp only [rmm]; omega
        refine ⟨rfl, Q, J, ?_, ?_, FJ.rf⟩
        · rw [swS, if_neg c_19, if_neg c_4]
        · rw [swS, if_neg c_19, if_neg c_4]
          exact R.cg
      · exact absurd c_41 (by decide)
    refine V_aload_n X dX1_switchTo_22 rfl rfl ?_
    refine V_iconst (v := 0) X dX1_switchTo_23 (by decide) ?_
    refine P6_8 X dX1_switchTo_24 fk_X1_13 (hi) (Or.inl rfl) ?_
    refine V_aload_n X dX1_switchTo_27 rfl rfl ?_
    apply V_get X dX1_switchTo_28 fk_X1_44
    · exact at_it (hi)
    · exact rfl
    apply V_get X dX1_switchTo_31 fk_X1_56
    · exact at_qu (hi)
    · exact rfl
    apply V_callV0 X dX1_switchTo_34 mk_X1_60 iv_Jx4a65c_clear_da8c8 (c_clear l (by decide) (h28.ov rfl rfl) (by rw [quL_len, (R.2.1 i hi).2.1]; have := q.1.2; omega))
    · exact ll_o (h28.ov rfl rfl)
    · exact rfl
    · exact Nat.le_of_ble_eq_true rfl
    · exact ⟨Nat.le_of_ble_eq_true rfl, Nat.le_of_ble_eq_true rfl⟩
    · exact ⟨by dsimp only [rmm]; omega, by dsimp only [rmm]; omega⟩
    rintro r I1 ⟨rfl, hL, hF⟩
    obtain ⟨J1, rfl, hL1, hF1⟩ := LL_ov hF hL rfl rfl
    refine V_goto X dX1_switchTo_37 49 (by decide) ?_
    refine V_vret X dX1_switchTo_49 ?_ ?_ ?_
    · dsimp only [rmm]; omega
    · dsimp only [rmm]; omega
    refine ⟨rfl, uQ Q i [], J1, ?_, ?_, hF1.fj (k := 28) rfl⟩
    · rw [swS, if_pos c_19]
      exact ovc_44
    · rw [swS, if_pos c_19]
      exact RJ.clr (S := pa (pa S 40 i m) 42 i 0) R.cg hi hF1 hL1
  refine V_iconst (v := 1) X dX1_switchTo_7 (by decide) ?_
  refine V_goto X dX1_switchTo_8 12 (by decide) ?_
  refine V_istore_n X dX1_switchTo_12 (by decide) rfl ?_
  refine V_aload_n X dX1_switchTo_13 rfl rfl ?_
  refine V_iload_n X dX1_switchTo_14 rfl ?_
  refine P6_7 X dX1_switchTo_15 fk_X1_9 (hi) ?_
  refine V_iload_n X dX1_switchTo_18 rfl ?_
  refine V_if_ne X dX1_switchTo_19 40 (by decide) (fun c_19 => ?_) (fun c_19 => ?_)
  · refine V_iload_n X dX1_switchTo_40 rfl ?_
    refine V_if_eq X dX1_switchTo_41 49 (by decide) (fun c_41 => ?_) (fun c_41 => ?_)
    · exact absurd c_41 (by decide)
    refine V_aload_n X dX1_switchTo_44 rfl rfl ?_
    refine V_iload_n X dX1_switchTo_45 rfl ?_
    apply V_callV1 X dX1_switchTo_46 mk_X1_65 iv_X1_sample (k_sample l (S := pa S 40 i m) (C := 2) (D := 26) hi R.cg hq8 q.cg hv ht (fun _ => ⟨Nat.le_refl _, Nat.le_refl _⟩))
    · exact at_it (hi)
    · exact rfl
    · exact Nat.le_of_ble_eq_true rfl
    · exact ⟨Nat.le_of_ble_eq_true rfl, Nat.le_of_ble_eq_true rfl⟩
    · exact ⟨by dsimp only [rmm]; omega, by dsimp only [rmm]; omega⟩
    rintro r I1 ⟨rfl, Q2, J2, rfl, R2, F2⟩
    refine V_vret X dX1_switchTo_49 ?_ ?_ ?_
    · dsimp only [rmm]; omega
    · dsimp only [rmm]; omega
    refine ⟨rfl, Q2, J2, ?_, ?_, F2⟩
    · rw [swS, if_neg c_19, if_pos c_4]
    · rw [swS, if_neg c_19, if_pos c_4]
      exact R2
  refine V_aload_n X dX1_switchTo_22 rfl rfl ?_
  refine V_iconst (v := 0) X dX1_switchTo_23 (by decide) ?_
  refine P6_8 X dX1_switchTo_24 fk_X1_13 (hi) (Or.inl rfl) ?_
  refine V_aload_n X dX1_switchTo_27 rfl rfl ?_
  apply V_get X dX1_switchTo_28 fk_X1_44
  · exact at_it (hi)
  · exact rfl
  apply V_get X dX1_switchTo_31 fk_X1_56
  · exact at_qu (hi)
  · exact rfl
  apply V_callV0 X dX1_switchTo_34 mk_X1_60 iv_Jx4a65c_clear_da8c8 (c_clear l (by decide) (h28.ov rfl rfl) (by rw [quL_len, (R.2.1 i hi).2.1]; have := q.1.2; omega))
  · exact ll_o (h28.ov rfl rfl)
  · exact rfl
  · exact Nat.le_of_ble_eq_true rfl
  · exact ⟨Nat.le_of_ble_eq_true rfl, Nat.le_of_ble_eq_true rfl⟩
  · exact ⟨by dsimp only [rmm]; omega, by dsimp only [rmm]; omega⟩
  rintro r I1 ⟨rfl, hL, hF⟩
  obtain ⟨J1, rfl, hL1, hF1⟩ := LL_ov hF hL rfl rfl
  refine V_goto X dX1_switchTo_37 49 (by decide) ?_
  refine V_vret X dX1_switchTo_49 ?_ ?_ ?_
  · dsimp only [rmm]; omega
  · dsimp only [rmm]; omega
  refine ⟨rfl, uQ Q i [], J1, ?_, ?_, hF1.fj (k := 28) rfl⟩
  · rw [swS, if_pos c_19]
    exact ovc_44
  · rw [swS, if_pos c_19]
    exact RJ.clr (S := pa (pa S 40 i m) 42 i 0) R.cg hi hF1 hL1
theorem pa_cm {S : St} {k i k' i' : Nat} {x y : Int32} (h : k ≠ k') : pa (pa S k i x) k' i' y = pa (pa S k' i' y) k i x := by
  refine St_ext (fun f j => ?_) rfl
  simp only [pa_1]
  by_cases a : f = k' ∧ j = i'
  · rw [if_pos a, if_neg (fun z => h (z.1.symm.trans a.1)), if_pos a]
  · rw [if_neg a, if_neg a]
theorem shS_cm {T : St} {i n b : Nat} {x : Int32} : shS (pa T 26 b x) i n = pa (shS T i n) 26 b x := by
  refine St_ext (fun f j => ?_) rfl
  by_cases hf : f = 26
  · subst hf
    rw [shS_k (by decide), pa_1, pa_1, shS_k (by decide)]
  · rw [pa_n _ _ hf]
    show (if (f = 46 ∨ f = 47) ∧ 8 * i ≤ j ∧ j < 8 * i + n then (pa T 26 b x).1 f (j + 1) else (pa T 26 b x).1 f j) = (if (f = 46 ∨ f = 47) ∧ 8 * i ≤ j ∧ j < 8 * i + n then T.1 f (j + 1) else T.1 f j)
    rw [pa_n _ _ hf, pa_n _ _ hf]
theorem shiftS_cm {T : St} {i b : Nat} {x : Int32} : shiftS (pa T 26 b x) i = pa (shiftS T i) 26 b x := by
  show shS (pa (pa T 26 b x) 44 i (T.1 44 i - 1)) i (nn ((pa (pa T 26 b x) 44 i (T.1 44 i - 1)).1 44 i)) = pa (shS (pa T 44 i (T.1 44 i - 1)) i (nn ((pa T 44 i (T.1 44 i - 1)).1 44 i))) 26 b x
  rw [pa_s, pa_s, pa_cm (by decide), shS_cm]
theorem smB_cm {T : St} {i b : Nat} {x : Int32} : smB (pa T 26 b x) i = pa (smB T i) 26 b x := by
  show (if T.1 44 i = T.1 38 i then (if T.1 39 i = 0 then pa (pa T 26 b x) 44 i (T.1 44 i - 1) else pa (shiftS (pa T 26 b x) i) 47 (8 * i) 1) else pa T 26 b x) = pa (if T.1 44 i = T.1 38 i then (if T.1 39 i = 0 then pa T 44 i (T.1 44 i - 1) else pa (shiftS T i) 47 (8 * i) 1) else T) 26 b x
  split
  · split
    · exact pa_cm (by decide)
    · rw [shiftS_cm]
      exact pa_cm (by decide)
  · rfl
theorem smF_cm {A : St} {i b : Nat} {x β : Int32} {v : Int64} : smF (pa A 26 b x) i v β = pa (smF A i v β) 26 b x := by
  show pa (pa (pb (pa (pa A 26 b x) 44 i (A.1 44 i + 1)) 45 (8 * i + nn (A.1 44 i)) v) 46 (8 * i + nn (A.1 44 i)) (A.1 0 0)) 47 (8 * i + nn (A.1 44 i)) β = pa (pa (pa (pb (pa A 44 i (A.1 44 i + 1)) 45 (8 * i + nn (A.1 44 i)) v) 46 (8 * i + nn (A.1 44 i)) (A.1 0 0)) 47 (8 * i + nn (A.1 44 i)) β) 26 b x
  rw [pa_cm (k := 26) (k' := 44) (by decide)]
  show pa (pa (pa (pb (pa A 44 i (A.1 44 i + 1)) 45 (8 * i + nn (A.1 44 i)) v) 26 b x) 46 (8 * i + nn (A.1 44 i)) (A.1 0 0)) 47 (8 * i + nn (A.1 44 i)) β = _
  rw [pa_cm (k := 26) (k' := 46) (by decide), pa_cm (k := 26) (k' := 47) (by decide)]
theorem sample_cm {T : St} {i b : Nat} {x : Int32} : sampleS (pa T 26 b x) i = pa (sampleS T i) 26 b x := by
  have e : smA (pa T 26 b x) i = pa (smA T i) 26 b x := by
    show pb (pa (pa T 26 b x) 42 i 1) 43 i (smV T i) = pa (pb (pa T 42 i 1) 43 i (smV T i)) 26 b x
    rw [pa_cm (k := 26) (k' := 42) (by decide)]
    rfl
  by_cases h : smC T i
  · rw [sampleS, sampleS, if_pos h, if_pos (show smC (pa T 26 b x) i from h)]
  · rw [sampleS, sampleS, if_neg h, if_neg (show ¬ smC (pa T 26 b x) i from h), e, smB_cm]
    exact smF_cm
/-- an item's modes -/
def MO (S : St) : Prop := ∀ i, i < nn (S.1 32 0) → (S.1 40 i = 0 → S.1 42 i = 0) ∧ sm (S.1 40 i) 2 ∧ ¬ S.2 41 i < 0
theorem mode_sw {S : St} {i : Nat} {m : Int32} (h : S.1 40 i = 0 → S.1 42 i = 0) : pa (swS S i m) 26 (nn (S.1 34 i)) (S.1 21 (nn (S.1 34 i))) = modeS S i m := by
  show _ = (if m = 0 then pa (pa (pa (pa S 40 i m) 26 (nn (S.1 34 i)) (S.1 21 (nn (S.1 34 i)))) 44 i 0) 42 i 0 else if S.1 40 i = 0 then sampleS (pa (pa (pa S 40 i m) 26 (nn (S.1 34 i)) (S.1 21 (nn (S.1 34 i)))) 42 i 0) i else pa (pa S 40 i m) 26 (nn (S.1 34 i)) (S.1 21 (nn (S.1 34 i))))
  unfold swS
  by_cases h0 : m = 0
  · rw [if_pos h0, if_pos h0, pa_cm (k := 44) (k' := 26) (by decide), pa_cm (k := 42) (k' := 26) (by decide), pa_cm (k := 42) (k' := 44) (by decide)]
  · rw [if_neg h0, if_neg h0]
    by_cases h1 : S.1 40 i = 0
    · rw [if_pos h1, if_pos h1, ← sample_cm]
      congr 1
      refine St_ext (fun f j => ?_) rfl
      rw [pa_1 _ 42]
      by_cases z : f = 42 ∧ j = i
      · rw [if_pos z, z.1, z.2]
        exact h h1
      · rw [if_neg z]
    · rw [if_neg h1, if_neg h1]
set_option maxRecDepth 100000 in
set_option maxHeartbeats 4000000 in
theorem k_mode (l : Launch) {S : St} {Q : Nat → List Nat} {J : aH} {s i m : Int32} (c : CT S) (R : RJ S Q J) (ow : OW S) (mo : MO S) (hqk : ∀ j, j < nn (S.1 32 0) → QK S j) : AM l yX8_mode cX8_mode 7 (some .int) (rmm 10 2 26 258) [.ref rO, .int s, .int i, .int m] (ovc S J) (RES (op_mode S s i m) J) := by
  refine AM_of RX8 (by decide) rfl [some (.ref rO), some (.int s), some (.int i), some (.int m), none, none, none] rfl (Nat.le_of_ble_eq_true rfl) (fun Z X hNm => ?_)
  refine V_aload_n X dX8_mode_0 rfl rfl ?_
  refine V_iload_n X dX8_mode_1 rfl ?_
  apply V_callV1 X dX8_mode_2 mk_X8_112 iv_X8_enter (k_enter l c R.ml)
  · exact at_root
  · exact rfl
  · exact Nat.le_of_ble_eq_true rfl
  · exact ⟨Nat.le_of_ble_eq_true rfl, Nat.le_of_ble_eq_true rfl⟩
  · exact ⟨by dsimp only [rmm]; omega, by dsimp only [rmm]; omega⟩
  rintro r I1 (⟨hl, rfl, rfl⟩ | ⟨hl, rfl, rfl⟩)
  · have hs := lack_s hl
    have hi := (ses_ix hs).2
    have R1 : RJ (entP S s) Q J := R.cg
    have m1 := R1.ml
    have c1 : CT (entP S s) := c.cg
    refine V_astore X dX8_mode_5 (by decide) rfl rfl ?_
    refine V_aload X dX8_mode_7 rfl rfl ?_
    refine V_ifnonnull X dX8_mode_9 18 (by decide) ?_
    refine V_aload_n X dX8_mode_18 rfl rfl ?_
    refine V_aload X dX8_mode_19 rfl rfl ?_
    refine V_iload_n X dX8_mode_21 rfl ?_
    apply V_callV2 X dX8_mode_22 mk_X8_200 iv_X8_itemOfClient (k_itOf l (S := entP S s) c1 m1 ow.cg hs)
    · exact at_root
    · exact rfl
    · exact Nat.le_of_ble_eq_true rfl
    · exact ⟨Nat.le_of_ble_eq_true rfl, Nat.le_of_ble_eq_true rfl⟩
    · exact ⟨by dsimp only [rmm]; omega, by dsimp only [rmm]; omega⟩
    rintro r I1 ⟨rfl, ⟨hb, rfl⟩ | ⟨hb, rfl⟩⟩
    · have hj := (it_ix (S := entP S s) hb.1.1).2
      have hw := (OW.cg (S' := entP S s) ow).2 _ hj
      refine V_astore X dX8_mode_25 (by decide) rfl rfl ?_
      refine V_aload X dX8_mode_27 rfl rfl ?_
      refine V_ifnonnull X dX8_mode_29 39 (by decide) ?_
      refine V_iload_n X dX8_mode_39 rfl ?_
      refine V_iconst (v := 0) X dX8_mode_40 (by decide) ?_
      refine V_iconst (v := 2) X dX8_mode_41 (by decide) ?_
      refine V_callS3 X dX8_mode_42 mk_X8_51 st_X8_isWithin (k_within l m 0 2) (Nat.le_of_ble_eq_true rfl) ⟨Nat.le_of_ble_eq_true rfl, Nat.le_of_ble_eq_true rfl⟩ ?_ ?_
      · exact ⟨by dsimp only [rmm]; omega, by dsimp only [rmm]; omega⟩
      rintro r I1 ⟨rfl, rfl⟩
      refine V_if_ne X dX8_mode_45 55 (by decide) (fun c_45 => ?_) (fun c_45 => ?_)
      · have h_45 := bz_t c_45
        refine V_aload X dX8_mode_55 rfl rfl ?_
        apply V_get X dX8_mode_57 fk_X8_204
        · exact at_it (hj)
        · exact rfl
        refine V_istore X dX8_mode_60 (by decide) rfl ?_
        refine V_aload X dX8_mode_62 rfl rfl ?_
        refine V_iload_n X dX8_mode_64 rfl ?_
        refine V_aload_n X dX8_mode_65 rfl rfl ?_
        apply V_get X dX8_mode_66 fk_X8_35
        · exact at_root
        · exact rfl
        apply V_callV2 X dX8_mode_69 mk_X8_196 iv_X1_switchTo (k_switch l (S := entP S s) hj R1 (fun j hj => (hqk j hj).1) (hqk _ hj) hw.2.2.2 rfl)
        · exact at_it (hj)
        · exact rfl
        · exact Nat.le_of_ble_eq_true rfl
        · exact ⟨Nat.le_of_ble_eq_true rfl, Nat.le_of_ble_eq_true rfl⟩
        · exact ⟨by dsimp only [rmm]; omega, by dsimp only [rmm]; omega⟩
        rintro r I1 ⟨rfl, Q2, J2, rfl, R2, F2⟩
        refine V_aload X dX8_mode_72 rfl rfl ?_
        apply V_get X dX8_mode_74 fk_X8_207
        · exact at_it (by rw [swS_k (by decide)]; exact hj)
        · exact rfl
        refine V_aload X dX8_mode_77 rfl rfl ?_
        apply V_get X dX8_mode_79 fk_X8_207
        · exact at_it (by rw [swS_k (by decide)]; exact hj)
        · exact rfl
        apply V_get X dX8_mode_82 fk_X8_161
        · exact at_sub ((by rw [swS_k (by decide), swS_k (by decide)]; exact hw.2.1))
        · exact rfl
        refine P5_12 X dX8_mode_85 fk_X8_164 ((by rw [swS_k (by decide), swS_k (by decide)]; exact hw.2.1)) ?_
        refine V_iload X dX8_mode_88 rfl ?_
        refine V_iret X dX8_mode_90 ?_ ?_ ?_ ?_
        · exact rfl
        · dsimp only [rmm]; omega
        · dsimp only [rmm]; omega
        have e : pa (swS (entP S s) (nn i) m) 26 (nn ((swS (entP S s) (nn i) m).1 34 (nn i))) ((swS (entP S s) (nn i) m).1 21 (nn ((swS (entP S s) (nn i) m).1 34 (nn i)))) = modeS (entP S s) (nn i) m := by
          rw [swS_k (k := 34) (by decide), swS_k (k := 21) (by decide)]
          exact mode_sw (S := entP S s) (mo _ hj).1
        refine RES.of (q := op_mode S s i m) ?_ R2.cg F2
        rw [op_mode, if_pos (lkI_0 hl hb), ent_0 hl, if_pos h_45, e]
      have h_45 := bz_f c_45
      refine V_aload_n X dX8_mode_48 rfl rfl ?_
      refine V_bipush (v := (-7)) X dX8_mode_49 (by decide) ?_
      apply V_callV1 X dX8_mode_51 mk_X8_55 iv_X8_refuse (k_refuse l (S := entP S s) (by unfold vp_in; decide) (by decide))
      · exact at_root
      · exact rfl
      · exact Nat.le_of_ble_eq_true rfl
      · exact ⟨Nat.le_of_ble_eq_true rfl, Nat.le_of_ble_eq_true rfl⟩
      · exact ⟨by dsimp only [rmm]; omega, by dsimp only [rmm]; omega⟩
      rintro r I1 ⟨rfl, rfl⟩
      refine V_iret X dX8_mode_54 ?_ ?_ ?_ ?_
      · exact rfl
      · dsimp only [rmm]; omega
      · dsimp only [rmm]; omega
      exact RES.of (q := op_mode S s i m) (by rw [op_mode, if_pos (lkI_0 hl hb), ent_0 hl, if_neg h_45] <;> rfl) R.cg FJ.rf
    refine V_astore X dX8_mode_25 (by decide) rfl rfl ?_
    refine V_aload X dX8_mode_27 rfl rfl ?_
    refine V_ifnonnullN X dX8_mode_29 ?_
    refine V_aload_n X dX8_mode_32 rfl rfl ?_
    refine V_bipush (v := (-6)) X dX8_mode_33 (by decide) ?_
    apply V_callV1 X dX8_mode_35 mk_X8_55 iv_X8_refuse (k_refuse l (S := entP S s) (by unfold vp_in; decide) (by decide))
    · exact at_root
    · exact rfl
    · exact Nat.le_of_ble_eq_true rfl
    · exact ⟨Nat.le_of_ble_eq_true rfl, Nat.le_of_ble_eq_true rfl⟩
    · exact ⟨by dsimp only [rmm]; omega, by dsimp only [rmm]; omega⟩
    rintro r I1 ⟨rfl, rfl⟩
    refine V_iret X dX8_mode_38 ?_ ?_ ?_ ?_
    · exact rfl
    · dsimp only [rmm]; omega
    · dsimp only [rmm]; omega
    exact RES.of (q := op_mode S s i m) (by rw [op_mode, if_neg (lkI_5 hl hb).2, (lkI_5 hl hb).1, ent_0 hl] <;> rfl) R.cg FJ.rf
  refine V_astore X dX8_mode_5 (by decide) rfl rfl ?_
  refine V_aload X dX8_mode_7 rfl rfl ?_
  refine V_ifnonnullN X dX8_mode_9 ?_
  refine V_aload_n X dX8_mode_12 rfl rfl ?_
  refine V_iload_n X dX8_mode_13 rfl ?_
  apply V_callV1 X dX8_mode_14 mk_X8_105 iv_X8_refuseSession (k_refS l c R.ml (lack_no hl))
  · exact at_root
  · exact rfl
  · exact Nat.le_of_ble_eq_true rfl
  · exact ⟨Nat.le_of_ble_eq_true rfl, Nat.le_of_ble_eq_true rfl⟩
  · exact ⟨by dsimp only [rmm]; omega, by dsimp only [rmm]; omega⟩
  rintro r I1 ⟨rfl, rfl⟩
  refine V_iret X dX8_mode_17 ?_ ?_ ?_ ?_
  · exact rfl
  · dsimp only [rmm]; omega
  · dsimp only [rmm]; omega
  exact RES.of (q := op_mode S s i m) (by rw [op_mode, if_neg (lkI_n hl).2, (lkI_n hl).1, ent_1 hl] <;> rfl) R.cg FJ.rf
set_option maxRecDepth 100000 in
set_option maxHeartbeats 4000000 in
theorem k_drop (l : Launch) {S : St} {Q : Nat → List Nat} {J : aH} {s i : Int32} (c : CT S) (R : RJ S Q J) (ow : OW S) (hqk : ∀ j, j < nn (S.1 32 0) → QK S j) : AM l yX8_drop cX8_drop 6 (some .int) (rmm 5 0 0 128) [.ref rO, .int s, .int i] (ovc S J) (RES (op_drop S s i) J) := by
  refine AM_of RX8 (by decide) rfl [some (.ref rO), some (.int s), some (.int i), none, none, none] rfl (Nat.le_of_ble_eq_true rfl) (fun Z X hNm => ?_)
  refine V_aload_n X dX8_drop_0 rfl rfl ?_
  refine V_iload_n X dX8_drop_1 rfl ?_
  apply V_callV1 X dX8_drop_2 mk_X8_112 iv_X8_enter (k_enter l c R.ml)
  · exact at_root
  · exact rfl
  · exact Nat.le_of_ble_eq_true rfl
  · exact ⟨Nat.le_of_ble_eq_true rfl, Nat.le_of_ble_eq_true rfl⟩
  · exact ⟨by dsimp only [rmm]; omega, by dsimp only [rmm]; omega⟩
  rintro r I1 (⟨hl, rfl, rfl⟩ | ⟨hl, rfl, rfl⟩)
  · have hs := lack_s hl
    have hi := (ses_ix hs).2
    have R1 : RJ (entP S s) Q J := R.cg
    have m1 := R1.ml
    have c1 : CT (entP S s) := c.cg
    refine V_astore_n X dX8_drop_5 (by decide) rfl rfl ?_
    refine V_aload_n X dX8_drop_6 rfl rfl ?_
    refine V_ifnonnull X dX8_drop_7 16 (by decide) ?_
    refine V_aload_n X dX8_drop_16 rfl rfl ?_
    refine V_aload_n X dX8_drop_17 rfl rfl ?_
    refine V_iload_n X dX8_drop_18 rfl ?_
    apply V_callV2 X dX8_drop_19 mk_X8_200 iv_X8_itemOfClient (k_itOf l (S := entP S s) c1 m1 ow.cg hs)
    · exact at_root
    · exact rfl
    · exact Nat.le_of_ble_eq_true rfl
    · exact ⟨Nat.le_of_ble_eq_true rfl, Nat.le_of_ble_eq_true rfl⟩
    · exact ⟨by dsimp only [rmm]; omega, by dsimp only [rmm]; omega⟩
    rintro r I1 ⟨rfl, ⟨hb, rfl⟩ | ⟨hb, rfl⟩⟩
    · have hj := (it_ix (S := entP S s) hb.1.1).2
      have hw := (OW.cg (S' := entP S s) ow).2 _ hj
      refine V_astore X dX8_drop_22 (by decide) rfl rfl ?_
      refine V_aload X dX8_drop_24 rfl rfl ?_
      refine V_ifnonnull X dX8_drop_26 36 (by decide) ?_
      refine V_aload X dX8_drop_36 rfl rfl ?_
      have hq := R1.que hj
      apply V_get X dX8_drop_38 fk_X8_210
      · exact at_it (hj)
      · exact rfl
      apply V_get X dX8_drop_41 fk_X8_214
      · exact at_qu (hj)
      · exact rfl
      apply V_callV0 X dX8_drop_44 mk_X8_59 iv_Jx4a65c_size_8abf5 (k_size l (x := S.1 44 (nn i)) (hq.ov rfl rfl) (by rw [quL_len, (R1.2.1 _ hj).2.1]; exact (hqk _ hj).1.1.symm))
      · exact ll_o (hq.ov rfl rfl)
      · exact rfl
      · exact Nat.le_of_ble_eq_true rfl
      · exact ⟨Nat.le_of_ble_eq_true rfl, Nat.le_of_ble_eq_true rfl⟩
      · exact ⟨by dsimp only [rmm]; omega, by dsimp only [rmm]; omega⟩
      rintro r I1 ⟨rfl, rfl⟩
      refine V_istore X dX8_drop_47 (by decide) rfl ?_
      refine V_aload X dX8_drop_49 rfl rfl ?_
      apply V_get X dX8_drop_51 fk_X8_207
      · exact at_it (hj)
      · exact rfl
      refine V_aload X dX8_drop_54 rfl rfl ?_
      apply V_callV1 X dX8_drop_56 mk_X8_217 iv_X7_remove (k_remI l (S := entP S s) hw.2.1 c1 R1 hj ⟨hb.1.2, hw.1.1⟩)
      · exact at_sub (hw.2.1)
      · exact rfl
      · exact Nat.le_of_ble_eq_true rfl
      · exact ⟨Nat.le_of_ble_eq_true rfl, Nat.le_of_ble_eq_true rfl⟩
      · exact ⟨by dsimp only [rmm]; omega, by dsimp only [rmm]; omega⟩
      rintro r I1 ⟨rfl, J2, rfl, R2, F2⟩
      refine V_aload X dX8_drop_59 rfl rfl ?_
      apply V_get X dX8_drop_61 fk_X8_207
      · exact at_it (hj)
      · exact rfl
      refine V_aload X dX8_drop_64 rfl rfl ?_
      apply V_get X dX8_drop_66 fk_X8_207
      · exact at_it (hj)
      · exact rfl
      apply V_get X dX8_drop_69 fk_X8_161
      · exact at_sub (hw.2.1)
      · exact rfl
      refine P5_12 X dX8_drop_72 fk_X8_164 (hw.2.1) ?_
      refine V_iload X dX8_drop_75 rfl ?_
      refine V_iret X dX8_drop_77 ?_ ?_ ?_ ?_
      · exact rfl
      · dsimp only [rmm]; omega
      · dsimp only [rmm]; omega
      exact RES.of (q := op_drop S s i) (by rw [op_drop, if_pos (lkI_0 hl hb), ent_0 hl] <;> rfl) R2.cg F2
    refine V_astore X dX8_drop_22 (by decide) rfl rfl ?_
    refine V_aload X dX8_drop_24 rfl rfl ?_
    refine V_ifnonnullN X dX8_drop_26 ?_
    refine V_aload_n X dX8_drop_29 rfl rfl ?_
    refine V_bipush (v := (-6)) X dX8_drop_30 (by decide) ?_
    apply V_callV1 X dX8_drop_32 mk_X8_55 iv_X8_refuse (k_refuse l (S := entP S s) (by unfold vp_in; decide) (by decide))
    · exact at_root
    · exact rfl
    · exact Nat.le_of_ble_eq_true rfl
    · exact ⟨Nat.le_of_ble_eq_true rfl, Nat.le_of_ble_eq_true rfl⟩
    · exact ⟨by dsimp only [rmm]; omega, by dsimp only [rmm]; omega⟩
    rintro r I1 ⟨rfl, rfl⟩
    refine V_iret X dX8_drop_35 ?_ ?_ ?_ ?_
    · exact rfl
    · dsimp only [rmm]; omega
    · dsimp only [rmm]; omega
    exact RES.of (q := op_drop S s i) (by rw [op_drop, if_neg (lkI_5 hl hb).2, (lkI_5 hl hb).1, ent_0 hl] <;> rfl) R.cg FJ.rf
  refine V_astore_n X dX8_drop_5 (by decide) rfl rfl ?_
  refine V_aload_n X dX8_drop_6 rfl rfl ?_
  refine V_ifnonnullN X dX8_drop_7 ?_
  refine V_aload_n X dX8_drop_10 rfl rfl ?_
  refine V_iload_n X dX8_drop_11 rfl ?_
  apply V_callV1 X dX8_drop_12 mk_X8_105 iv_X8_refuseSession (k_refS l c R.ml (lack_no hl))
  · exact at_root
  · exact rfl
  · exact Nat.le_of_ble_eq_true rfl
  · exact ⟨Nat.le_of_ble_eq_true rfl, Nat.le_of_ble_eq_true rfl⟩
  · exact ⟨by dsimp only [rmm]; omega, by dsimp only [rmm]; omega⟩
  rintro r I1 ⟨rfl, rfl⟩
  refine V_iret X dX8_drop_15 ?_ ?_ ?_ ?_
  · exact rfl
  · dsimp only [rmm]; omega
  · dsimp only [rmm]; omega
  exact RES.of (q := op_drop S s i) (by rw [op_drop, if_neg (lkI_n hl).2, (lkI_n hl).1, ent_1 hl] <;> rfl) R.cg FJ.rf
