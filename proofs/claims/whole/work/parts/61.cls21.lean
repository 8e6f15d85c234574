theorem tkF_q {S : St} {b M : Nat} (h8 : ∀ j, j < 60 → sm (S.1 44 j) 8) : ∀ j, j < 60 → sm ((tkF S b M).1.1 44 j) 8 := by
  unfold tkF
  split
  · exact h8
  · exact tkY_q h8 _ (Nat.le_refl _)
theorem mkK_54 {S : St} {b M : Nat} (h : S.1 54 M = 0) : (mkK S b).1 54 M = 0 := by
  unfold mkK
  split
  · rw [pa_1]
    split
    · rfl
    · exact h
  · exact h
set_option maxRecDepth 100000 in
set_option maxHeartbeats 4000000 in
theorem n_ms (l : Launch) {I : aH} {i q : Nat} {a s n t : Int32} (h : I (kd 8 i 0) = some (.inr (3, [.int 0, .int 0, .int 0, .int 0, .null, .int 0, .int 0]))) : AM l yX2_init cX2_init 6 none (rmm 1 0 0 30) [.ref (kd 8 i 0), .int a, .int s, .int n, .int t, .ref q] I (fun r I' => r = none ∧ I' = hu I (kd 8 i 0) (.inr (3, [.int a, .int s, .int n, .int t, .ref q, .int 0, .int 0]))) := by
  refine AM_of RX2 (by decide) rfl [some (.ref (kd 8 i 0)), some (.int a), some (.int s), some (.int n), some (.int t), some (.ref q)] rfl (Nat.le_of_ble_eq_true rfl) (fun Z X hNm => ?_)
  refine V_aload_n X dX2_init_0 rfl rfl ?_
  refine V_objInit X dX2_init_1 ol_X2_1 ob_i ob_c (Nat.le_of_ble_eq_true rfl) (Nat.le_of_ble_eq_true rfl) ?_
  refine V_aload_n X dX2_init_4 rfl rfl ?_
  refine V_iconst (v := 0) X dX2_init_5 (by decide) ?_
  apply V_put X dX2_init_6 fk_X2_7
  · first | assumption | exact hu_s | exact (hu_n (by first | exact kd_nk (by decide) | exact kd_ni (by omega) | exact kd_ng (by omega) | assumption | exact Ne.symm (by assumption))).trans (by first | assumption | exact hu_s | exact (hu_n (by first | exact kd_nk (by decide) | exact kd_ni (by omega) | exact kd_ng (by omega) | assumption | exact Ne.symm (by assumption))).trans (by first | assumption | exact hu_s | exact (hu_n (by first | exact kd_nk (by decide) | exact kd_ni (by omega) | exact kd_ng (by omega) | assumption | exact Ne.symm (by assumption))).trans (by first | assumption | exact hu_s)))
  · exact ro_k (by decide)
  · exact Nat.le_of_ble_eq_true rfl
  · exact rfl
  · exact rfl
  refine V_aload_n X dX2_init_9 rfl rfl ?_
  refine V_iconst (v := 0) X dX2_init_10 (by decide) ?_
  apply V_put X dX2_init_11 fk_X2_13
  · first | assumption | exact hu_s | exact (hu_n (by first | exact kd_nk (by decide) | exact kd_ni (by omega) | exact kd_ng (by omega) | assumption | exact Ne.symm (by assumption))).trans (by first | assumption | exact hu_s | exact (hu_n (by first | exact kd_nk (by decide) | exact kd_ni (by omega) | exact kd_ng (by omega) | assumption | exact Ne.symm (by assumption))).trans (by first | assumption | exact hu_s | exact (hu_n (by first | exact kd_nk (by decide) | exact kd_ni (by omega) | exact kd_ng (by omega) | assumption | exact Ne.symm (by assumption))).trans (by first | assumption | exact hu_s)))
  · exact ro_k (by decide)
  · exact Nat.le_of_ble_eq_true rfl
  · exact rfl
  · exact rfl
  refine V_aload_n X dX2_init_14 rfl rfl ?_
  refine V_iload_n X dX2_init_15 rfl ?_
  apply V_putF X hNm dX2_init_16 fp_X2_16
  · first | assumption | exact hu_s | exact (hu_n (by first | exact kd_nk (by decide) | exact kd_ni (by omega) | exact kd_ng (by omega) | assumption | exact Ne.symm (by assumption))).trans (by first | assumption | exact hu_s | exact (hu_n (by first | exact kd_nk (by decide) | exact kd_ni (by omega) | exact kd_ng (by omega) | assumption | exact Ne.symm (by assumption))).trans (by first | assumption | exact hu_s | exact (hu_n (by first | exact kd_nk (by decide) | exact kd_ni (by omega) | exact kd_ng (by omega) | assumption | exact Ne.symm (by assumption))).trans (by first | assumption | exact hu_s)))
  · exact ro_k (by decide)
  · exact Nat.le_of_ble_eq_true rfl
  · exact rfl
  · exact rfl
  refine V_aload_n X dX2_init_19 rfl rfl ?_
  refine V_iload_n X dX2_init_20 rfl ?_
  apply V_putF X hNm dX2_init_21 fp_X2_20
  · first | assumption | exact hu_s | exact (hu_n (by first | exact kd_nk (by decide) | exact kd_ni (by omega) | exact kd_ng (by omega) | assumption | exact Ne.symm (by assumption))).trans (by first | assumption | exact hu_s | exact (hu_n (by first | exact kd_nk (by decide) | exact kd_ni (by omega) | exact kd_ng (by omega) | assumption | exact Ne.symm (by assumption))).trans (by first | assumption | exact hu_s | exact (hu_n (by first | exact kd_nk (by decide) | exact kd_ni (by omega) | exact kd_ng (by omega) | assumption | exact Ne.symm (by assumption))).trans (by first | assumption | exact hu_s)))
  · exact ro_k (by decide)
  · exact Nat.le_of_ble_eq_true rfl
  · exact rfl
  · exact rfl
  refine V_aload_n X dX2_init_24 rfl rfl ?_
  refine V_iload_n X dX2_init_25 rfl ?_
  apply V_putF X hNm dX2_init_26 fp_X2_23
  · first | assumption | exact hu_s | exact (hu_n (by first | exact kd_nk (by decide) | exact kd_ni (by omega) | exact kd_ng (by omega) | assumption | exact Ne.symm (by assumption))).trans (by first | assumption | exact hu_s | exact (hu_n (by first | exact kd_nk (by decide) | exact kd_ni (by omega) | exact kd_ng (by omega) | assumption | exact Ne.symm (by assumption))).trans (by first | assumption | exact hu_s | exact (hu_n (by first | exact kd_nk (by decide) | exact kd_ni (by omega) | exact kd_ng (by omega) | assumption | exact Ne.symm (by assumption))).trans (by first | assumption | exact hu_s)))
  · exact ro_k (by decide)
  · exact Nat.le_of_ble_eq_true rfl
  · exact rfl
  · exact rfl
  refine V_aload_n X dX2_init_29 rfl rfl ?_
  refine V_iload X dX2_init_30 rfl ?_
  apply V_putF X hNm dX2_init_32 fp_X2_26
  · first | assumption | exact hu_s | exact (hu_n (by first | exact kd_nk (by decide) | exact kd_ni (by omega) | exact kd_ng (by omega) | assumption | exact Ne.symm (by assumption))).trans (by first | assumption | exact hu_s | exact (hu_n (by first | exact kd_nk (by decide) | exact kd_ni (by omega) | exact kd_ng (by omega) | assumption | exact Ne.symm (by assumption))).trans (by first | assumption | exact hu_s | exact (hu_n (by first | exact kd_nk (by decide) | exact kd_ni (by omega) | exact kd_ng (by omega) | assumption | exact Ne.symm (by assumption))).trans (by first | assumption | exact hu_s)))
  · exact ro_k (by decide)
  · exact Nat.le_of_ble_eq_true rfl
  · exact rfl
  · exact rfl
  refine V_aload_n X dX2_init_35 rfl rfl ?_
  refine V_aload X dX2_init_36 rfl rfl ?_
  apply V_putF X hNm dX2_init_38 fp_X2_29
  · first | assumption | exact hu_s | exact (hu_n (by first | exact kd_nk (by decide) | exact kd_ni (by omega) | exact kd_ng (by omega) | assumption | exact Ne.symm (by assumption))).trans (by first | assumption | exact hu_s | exact (hu_n (by first | exact kd_nk (by decide) | exact kd_ni (by omega) | exact kd_ng (by omega) | assumption | exact Ne.symm (by assumption))).trans (by first | assumption | exact hu_s | exact (hu_n (by first | exact kd_nk (by decide) | exact kd_ni (by omega) | exact kd_ng (by omega) | assumption | exact Ne.symm (by assumption))).trans (by first | assumption | exact hu_s)))
  · exact ro_k (by decide)
  · exact Nat.le_of_ble_eq_true rfl
  · exact rfl
  · exact rfl
  refine V_vret X dX2_init_41 ?_ ?_ ?_
  · dsimp only [rmm]; omega
  · dsimp only [rmm]; omega
  exact ⟨rfl, by rw [hu_hu, hu_hu, hu_hu, hu_hu, hu_hu, hu_hu]; rfl⟩
set_option maxRecDepth 100000 in
set_option maxHeartbeats 4000000 in
theorem k_send (l : Launch) {S : St} {Q : Nat → List Nat} {J : aH} {b M : Nat} (hb : b < nn (S.1 15 0)) (c : CT S) (R : RJ S Q J) (ow : OW S) (ma : MA S) (g0 : S.1 70 0 = 0) (hM : nn (S.1 48 0) = M) (hM3 : M < 512) (h54 : S.1 54 M = 0) (h22 : sm (S.1 22 b) 10) (h8 : ∀ x, x < 60 → sm (S.1 44 x) 8) (hkp : kpA S (nI b) ≤ 5) (h511 : nn (S.1 13 (nn (S.1 17 b))) ≤ 511) : AM l yX8_send cX8_send 4 none (rmm 8 5 1624 212) [.ref rO, .ref (kd 5 b 0)] (ovc S J) (VQ (makeS S b) J) := by
  have h60 := (ct_nn c.2.2.2.2.1 (by decide)).1
  have h20 := (ct_nn c.2.2.2.1 (by decide)).1
  have hq8 : ∀ x, x < nn (S.1 32 0) → sm (S.1 44 x) 8 := fun x hx => h8 x (by omega)
  have hQL := R.ql hq8
  have hM2 : M < 2 ^ 20 := by omega
  have m5 : LL J 20 5 (rg 8 M) := by rw [← hM]; exact R.ml.2.2.2.2.2
  have how := ow.1 b hb
  refine AM_of RX8 (by decide) rfl [some (.ref rO), some (.ref (kd 5 b 0)), none, none] rfl (Nat.le_of_ble_eq_true rfl) (fun Z X hNm => ?_)
  refine V_aload_n X dX8_send_0 rfl rfl ?_
  apply V_callV0 X dX8_send_1 mk_X8_297 iv_X7_isReady (k_ready l hb (R.its hb) hQL h60 (by omega))
  · exact at_sub (hb)
  · exact rfl
  · exact Nat.le_of_ble_eq_true rfl
  · exact ⟨Nat.le_of_ble_eq_true rfl, Nat.le_of_ble_eq_true rfl⟩
  · exact ⟨by dsimp only [rmm]; omega, by dsimp only [rmm]; omega⟩
  rintro r I1 ⟨rfl, rfl⟩
  refine V_istore_n X dX8_send_4 (by decide) rfl ?_
  refine V_new X dX8_send_5 nk_X8_250 (kd 8 M 0) ?_ ?_ ?_ ?_ ?_ ?_
  · exact no_at rfl (ob8_ge (by omega) (fun z => z.2 g0))
  · exact kd_nk (by decide)
  · exact ro_k (by decide)
  · dsimp only [rmm]; omega
  · dsimp only [rmm]; omega
  change V _ _ (hu (ovc S J) (kd 8 M 0) (.inr (3, msZ))) _ _ _ _ _
  rw [gh_ovc hM]
  refine V_dup X dX8_send_8 rfl ?_
  refine V_aload_n X dX8_send_9 rfl rfl ?_
  apply V_get X dX8_send_10 fk_X8_28
  · exact at_root
  · exact rfl
  apply V_callV0 X dX8_send_13 mk_X8_59 iv_Jx4a65c_size_8abf5 (k_size l (x := nI M) (m5.ov rfl rfl) (by rw [rg_len]))
  · exact ll_o (m5.ov rfl rfl)
  · exact rfl
  · exact Nat.le_of_ble_eq_true rfl
  · exact ⟨Nat.le_of_ble_eq_true rfl, Nat.le_of_ble_eq_true rfl⟩
  · exact ⟨by dsimp only [rmm]; omega, by dsimp only [rmm]; omega⟩
  rintro r I1 ⟨rfl, rfl⟩
  refine V_aload_n X dX8_send_16 rfl rfl ?_
  apply V_get X dX8_send_17 fk_X8_150
  · exact at_sub (hb)
  · exact rfl
  refine V_aload_n X dX8_send_20 rfl rfl ?_
  apply V_get X dX8_send_21 fk_X8_286
  · exact at_sub (hb)
  · exact rfl
  refine V_aload_n X dX8_send_24 rfl rfl ?_
  apply V_get X dX8_send_25 fk_X8_35
  · exact at_root
  · exact rfl
  refine V_aload_n X dX8_send_28 rfl rfl ?_
  apply V_callV0 X dX8_send_29 mk_X8_352 iv_X7_takeEntries (k_take l (S := gh S) (M := M) hb c.cg R.cg hM h22 h8 hq8)
  · exact at_sub (hb)
  · exact rfl
  · exact Nat.le_of_ble_eq_true rfl
  · exact ⟨Nat.le_of_ble_eq_true rfl, Nat.le_of_ble_eq_true rfl⟩
  · exact ⟨by dsimp only [rmm]; omega, by dsimp only [rmm]; omega⟩
  rintro r I1 ⟨rfl, Q1, J1, f, rfl, R1, F1, hms⟩
  have hT0 : ∀ k, k ≠ 44 ∧ k ≠ 46 ∧ k ≠ 47 ∧ k ≠ 56 ∧ k ≠ 57 ∧ k ≠ 58 → ∀ j, (tkF (gh S) b M).1.1 k j = (gh S).1 k j := fun k hk j => tkF_k hk
  have hc40 : (tkF (gh S) b M).2 ≤ 40 := tkF_c h60 h8 h22
  have hq8t := tkF_q (S := gh S) (b := b) (M := M) h8
  generalize hq : tkF (gh S) b M = q at *
  have hT48 : q.1.1 48 0 = S.1 48 0 := hT0 48 (by decide) 0
  have hT54 : q.1.1 54 M = 0 := (hT0 54 (by decide) M).trans h54
  have hT15 : nn (q.1.1 15 0) = nn (S.1 15 0) := congrArg nn (hT0 15 (by decide) 0)
  have hT32 : nn (q.1.1 32 0) = nn (S.1 32 0) := congrArg nn (hT0 32 (by decide) 0)
  have hT8 : nn (q.1.1 8 0) = nn (S.1 8 0) := congrArg nn (hT0 8 (by decide) 0)
  have hob : ovc q.1 (hu J1 (kd 10 M 0) (.inl (4, aR q.2 f))) (kd 8 M 0) = some (.inr (3, msZ)) := (ovc_at rfl).trans ((if_neg (by rw [hT48]; omega)).trans (if_pos ⟨by rw [hT48]; exact hM.symm, by rw [hT0 70 (by decide) 0, pa_s]; decide⟩))
  refine V_callI5 X dX8_send_32 mk_X8_356 ii_X2_init (n_ms l hob) (Nat.le_of_ble_eq_true rfl) ⟨Nat.le_of_ble_eq_true rfl, Nat.le_of_ble_eq_true rfl⟩ ?_ ?_
  · exact ⟨by dsimp only [rmm]; omega, by dsimp only [rmm]; omega⟩
  rintro r I1 ⟨rfl, rfl⟩
  have hnw : hu (ovc q.1 (hu J1 (kd 10 M 0) (.inl (4, aR q.2 f)))) (kd 8 M 0) (.inr (3, [.int (nI M), .int (nI b), .int ((gh S).1 24 b), .int ((gh S).1 0 0), .ref (kd 10 M 0), .int 0, .int 0])) = ovc (msN S q.1 b M q.2) (hu J1 (kd 10 M 0) (.inl (4, aR q.2 f))) := new_ms hM hM2 g0 hT0 h54
  rw [hnw]
  have e48 : nn ((msN S q.1 b M q.2).1 48 0) = M + 1 := by
    show nn (nI (M + 1)) = M + 1
    exact nnI (by omega)
  have eb2 : nn ((msN S q.1 b M q.2).1 15 0) = nn (q.1.1 15 0) := rfl
  have hb2 : b < nn ((msN S q.1 b M q.2).1 15 0) := by omega
  have ekp : ∀ b', kpI (msN S q.1 b M q.2) b' = kpI q.1 b' := fun b' => kpI_ms (by rw [hT48]; exact hM) hM2 (fun j => hT0 49 (by decide) j) hT54
  have h26q : LL (hu J1 (kd 10 M 0) (.inl (4, aR q.2 f))) 26 b (kpL q.1 b) := (R1.kps (by omega)).hu (by decide) (by decide) (by decide)
  have h24q : LL (hu J1 (kd 10 M 0) (.inl (4, aR q.2 f))) 24 b (itL q.1 b) := (R1.its (by omega)).hu (by decide) (by decide) (by decide)
  have h22q : LL (hu J1 (kd 10 M 0) (.inl (4, aR q.2 f))) 22 (nn (S.1 17 b)) (mlL q.1 (nn (S.1 17 b))) := (R1.mail (by omega)).hu (by decide) (by decide) (by decide)
  have h20q : LL (hu J1 (kd 10 M 0) (.inl (4, aR q.2 f))) 20 5 (rg 8 M) := by
    have := R1.ml.2.2.2.2.2
    rw [hT48, hM] at this
    exact this.hu (by decide) (by decide) (by decide)
  have hQq : QL q.1 Q1 (hu J1 (kd 10 M 0) (.inl (4, aR q.2 f))) := fun i hi => ⟨(R1.que hi).hu (by decide) (by decide) (by decide), (R1.2.1 i hi).2.1, hq8t i (by omega)⟩
  have hml : (mlL q.1 (nn (S.1 17 b))).length ≤ 511 := by
    rw [mlL_len, hT0 13 (by decide)]
    exact h511
  have h13q : ∀ s, s < nn (q.1.1 8 0) → sm (q.1.1 13 s) 512 := fun s hs => by
    rw [hT0 13 (by decide)]
    exact (ma s (by omega)).1
  have hmlE : ∀ x ∈ mlL q.1 (nn (S.1 17 b)), ∃ m, m < M ∧ x = kd 8 m 0 := fun x hx => by
    obtain ⟨j, hj, rfl⟩ := List.mem_map.mp hx
    have hj := List.mem_range.mp hj
    rw [hT0 13 (by decide)] at hj
    refine ⟨_, ?_, rfl⟩
    rw [hT0 14 (by decide)]
    have := ((ma _ how.2).2 j hj).2
    rw [hM] at this
    exact this
  refine V_astore_n X dX8_send_35 (by decide) rfl rfl ?_
  refine V_iload_n X dX8_send_36 rfl ?_
  refine V_if_eq X dX8_send_37 55 (by decide) (fun c_37 => ?_) (fun c_37 => ?_)
  · have h_37 := bz_f c_37
    refine V_aload_n X dX8_send_55 rfl rfl ?_
    refine V_aload_n X dX8_send_56 rfl rfl ?_
    have x15 : (msN S q.1 b M q.2).1 15 0 = q.1.1 15 0 := rfl
    have x8 : (msN S q.1 b M q.2).1 8 0 = q.1.1 8 0 := rfl
    have x32 : (msN S q.1 b M q.2).1 32 0 = q.1.1 32 0 := rfl
    have x17 : (msN S q.1 b M q.2).1 17 b = S.1 17 b := hT0 17 (by decide) b
    have x48 : (msN S q.1 b M q.2).1 48 0 = nI (M + 1) := rfl
    have xit : itI (msN S q.1 b M q.2) b = itI q.1 b := by
      unfold itI siB siP
      rw [x32, show (msN S q.1 b M q.2).1 33 = q.1.1 33 from by funext j; exact rfl, show (msN S q.1 b M q.2).1 34 = q.1.1 34 from by funext j; exact rfl]
    have xql : QL (msN S q.1 b M q.2) Q1 (hu J1 (kd 10 M 0) (.inl (4, aR q.2 f))) := fun i hi => by
      rw [x32] at hi
      have h0 := hQq i hi
      refine ⟨h0.1, ?_, ?_⟩
      · rw [show (msN S q.1 b M q.2).1 44 i = q.1.1 44 i from rfl]
        exact h0.2.1
      · rw [show (msN S q.1 b M q.2).1 44 i = q.1.1 44 i from rfl]
        exact h0.2.2
    have x24 : LL (hu J1 (kd 10 M 0) (.inl (4, aR q.2 f))) 24 b (itL (msN S q.1 b M q.2) b) := by
      unfold itL
      rw [xit]
      exact h24q
    have xb : b < nn ((msN S q.1 b M q.2).1 15 0) := by rw [x15]; omega
    have xm : M < nn ((msN S q.1 b M q.2).1 48 0) := by rw [x48, nnI (by omega)]; omega
    have xa : nn (S.1 17 b) < nn ((msN S q.1 b M q.2).1 8 0) := by rw [x8]; omega
    have xg : ∀ k, k ≠ 48 ∧ k ≠ 49 ∧ k ≠ 50 ∧ k ≠ 53 ∧ k ≠ 24 ∧ k ≠ 70 ∧ k ≠ 51 ∧ k ≠ 52 ∧ k ≠ 54 → (msN S q.1 b M q.2).1 k = q.1.1 k := fun k hk => by
      funext j
      unfold msN
      rw [pa_n _ _ (by omega), pa_n _ _ (by omega)]
      exact mx_n (by omega)
    apply V_callV0 X dX8_send_57 mk_X8_297 iv_X7_isReady (k_ready l (S := (msN S q.1 b M q.2)) xb x24 xql (by rw [x32]; omega) (by omega))
    · exact at_sub (xb)
    · exact rfl
    · exact Nat.le_of_ble_eq_true rfl
    · exact ⟨Nat.le_of_ble_eq_true rfl, Nat.le_of_ble_eq_true rfl⟩
    · exact ⟨by dsimp only [rmm]; omega, by dsimp only [rmm]; omega⟩
    rintro r I1 ⟨rfl, rfl⟩
    refine P8_5 X dX8_send_60 fk_X8_264 (xm) (b01) ?_
    refine V_aload_n X dX8_send_63 rfl rfl ?_
    refine V_aload_n X dX8_send_64 rfl rfl ?_
    apply V_get X dX8_send_65 fk_X8_264
    · exact at_ms (xm)
    · exact rfl
    refine P5_14 X dX8_send_68 fk_X8_348 (xb) (by rw [pa_s]; exact b01) ?_
    refine V_aload_n X dX8_send_71 rfl rfl ?_
    refine V_iconst (v := 1) X dX8_send_72 (by decide) ?_
    refine P5_13 X dX8_send_73 fk_X8_363 (xb) (Or.inr rfl) ?_
    refine V_aload_n X dX8_send_76 rfl rfl ?_
    refine V_iconst (v := 0) X dX8_send_77 (by decide) ?_
    refine P5_15 X dX8_send_78 fk_X8_292 (xb) (Or.inl rfl) ?_
    refine V_aload_n X dX8_send_81 rfl rfl ?_
    refine V_aload_n X dX8_send_82 rfl rfl ?_
    apply V_get X dX8_send_83 fk_X8_366
    · exact at_sub (xb)
    · exact rfl
    refine P5_11 X dX8_send_86 fk_X8_289 (xb) ?_
    refine V_aload_n X dX8_send_89 rfl rfl ?_
    refine V_aload_n X dX8_send_90 rfl rfl ?_
    apply V_get X dX8_send_91 fk_X8_161
    · exact at_sub (xb)
    · exact rfl
    refine P5_12 X dX8_send_94 fk_X8_164 (xb) ?_
    refine V_aload_n X dX8_send_97 rfl rfl ?_
    apply V_get (v := .ref (kd 4 (nn (S.1 17 b)) 0)) X dX8_send_98 fk_X8_175
    · exact at_sub (xb)
    · exact congrArg (fun z => some (Value.ref (kd 4 (nn z) 0))) x17
    refine V_dup X dX8_send_101 rfl ?_
    apply V_get X dX8_send_102 fk_X8_224
    · exact at_ses (xa)
    · exact rfl
    refine V_iconst (v := 1) X dX8_send_105 (by decide) ?_
    refine V_isub X dX8_send_106 ?_
    refine P4_5 X dX8_send_107 fk_X8_224 (xa) ?_
    refine V_aload_n X dX8_send_110 rfl rfl ?_
    apply V_get (v := .ref (kd 4 (nn (S.1 17 b)) 0)) X dX8_send_111 fk_X8_175
    · exact at_sub (xb)
    · exact congrArg (fun z => some (Value.ref (kd 4 (nn z) 0))) x17
    apply V_get X dX8_send_114 fk_X8_246
    · exact at_ses (xa)
    · exact rfl
    refine V_aload_n X dX8_send_117 rfl rfl ?_
    change V _ _ (ovc (clT (pa (msN S q.1 b M q.2) 52 M (if rdy (msN S q.1 b M q.2) (nI b) then (1 : Int32) else 0)) b M (nn (S.1 17 b))) (hu J1 (kd 10 M 0) (.inl (4, aR q.2 f)))) _ _ _ _ _
    have y48 : M < nn ((clT (pa (msN S q.1 b M q.2) 52 M (if rdy (msN S q.1 b M q.2) (nI b) then (1 : Int32) else 0)) b M (nn (S.1 17 b))).1 48 0) := xm
    have h22k := h22q
    have h20k := h20q
    apply V_callV1 X dX8_send_118 mk_X8_66 iv_Jx4a65c_add_9ea2d (c_add l (by decide) (h22k.ov (S := clT (pa (msN S q.1 b M q.2) 52 M (if rdy (msN S q.1 b M q.2) (nI b) then (1 : Int32) else 0)) b M (nn (S.1 17 b))) rfl rfl) (by omega) (fun x hx => by obtain ⟨m, hm, rfl⟩ := hmlE x hx; exact eo_ms (S := clT (pa (msN S q.1 b M q.2) 52 M (if rdy (msN S q.1 b M q.2) (nI b) then (1 : Int32) else 0)) b M (nn (S.1 17 b))) (by omega)) (eo_ms (S := clT (pa (msN S q.1 b M q.2) 52 M (if rdy (msN S q.1 b M q.2) (nI b) then (1 : Int32) else 0)) b M (nn (S.1 17 b))) y48))
    · exact ll_o (h22k.ov (S := clT (pa (msN S q.1 b M q.2) 52 M (if rdy (msN S q.1 b M q.2) (nI b) then (1 : Int32) else 0)) b M (nn (S.1 17 b))) rfl rfl)
    · exact rfl
    · exact Nat.le_of_ble_eq_true rfl
    · exact ⟨Nat.le_of_ble_eq_true rfl, Nat.le_of_ble_eq_true rfl⟩
    · exact ⟨by dsimp only [rmm]; omega, by dsimp only [rmm]; omega⟩
    rintro r I1 ⟨rfl, hL, hF⟩
    obtain ⟨J3, rfl, hL3, hF3⟩ := LL_ov hF hL rfl rfl
    have h20m := h20k.fr hF3 (by decide) (by decide) (by decide) (Or.inl (by decide))
    have hrl : (rg 8 M).length ≤ 511 := by rw [rg_len]; omega
    refine V_pop X dX8_send_121 rfl ?_
    refine V_aload_n X dX8_send_122 rfl rfl ?_
    apply V_get X dX8_send_123 fk_X8_28
    · exact at_root
    · exact rfl
    refine V_aload_n X dX8_send_126 rfl rfl ?_
    apply V_callV1 X dX8_send_127 mk_X8_66 iv_Jx4a65c_add_9ea2d (c_add l (by decide) (h20m.ov (S := clT (pa (msN S q.1 b M q.2) 52 M (if rdy (msN S q.1 b M q.2) (nI b) then (1 : Int32) else 0)) b M (nn (S.1 17 b))) rfl rfl) (by omega) (fun x hx => by obtain ⟨m, hm, rfl⟩ := rg_mem hx; exact eo_ms (S := clT (pa (msN S q.1 b M q.2) 52 M (if rdy (msN S q.1 b M q.2) (nI b) then (1 : Int32) else 0)) b M (nn (S.1 17 b))) (by omega)) (eo_ms (S := clT (pa (msN S q.1 b M q.2) 52 M (if rdy (msN S q.1 b M q.2) (nI b) then (1 : Int32) else 0)) b M (nn (S.1 17 b))) y48))
    · exact ll_o (h20m.ov (S := clT (pa (msN S q.1 b M q.2) 52 M (if rdy (msN S q.1 b M q.2) (nI b) then (1 : Int32) else 0)) b M (nn (S.1 17 b))) rfl rfl)
    · exact rfl
    · exact Nat.le_of_ble_eq_true rfl
    · exact ⟨Nat.le_of_ble_eq_true rfl, Nat.le_of_ble_eq_true rfl⟩
    · exact ⟨by dsimp only [rmm]; omega, by dsimp only [rmm]; omega⟩
    rintro r I1 ⟨rfl, hL, hF⟩
    obtain ⟨J4, rfl, hL4, hF4⟩ := LL_ov hF hL rfl rfl
    refine V_pop X dX8_send_130 rfl ?_
    refine V_vret X dX8_send_131 ?_ ?_ ?_
    · dsimp only [rmm]; omega
    · dsimp only [rmm]; omega
    have hmk := make_N (r := (if rdy (msN S q.1 b M q.2) (nI b) then (1 : Int32) else 0)) hM h60 h8 (by omega) h_37 (msN S q.1 b M q.2) (by rw [hq]) rfl
    have hfin : ovc (clT (pa (msN S q.1 b M q.2) 52 M (if rdy (msN S q.1 b M q.2) (nI b) then (1 : Int32) else 0)) b M (nn (S.1 17 b))) J4 = ovc (makeS S b) J4 := by
      rw [ovc_ml (a := nn (S.1 17 b)) (M := M), ← mkT_cl, hmk]
    have hgk : ∀ b', b' ≠ b → b' < 20 → kpI (pa (msN S q.1 b M q.2) 52 M (if rdy (msN S q.1 b M q.2) (nI b) then (1 : Int32) else 0)) b' = kpI q.1 b' := fun b' h1 h2 => by
      rw [show kpI (pa (msN S q.1 b M q.2) 52 M (if rdy (msN S q.1 b M q.2) (nI b) then (1 : Int32) else 0)) b' = kpI (msN S q.1 b M q.2) b' from rfl, ekp]
    have hg51 : (pa (msN S q.1 b M q.2) 52 M (if rdy (msN S q.1 b M q.2) (nI b) then (1 : Int32) else 0)).1 51 M = nI q.2 := by
      rw [pa_n _ _ (by decide)]
      unfold msN
      rw [pa_n _ _ (by decide), pa_s]
    have hg51n : ∀ m, m ≠ M → (pa (msN S q.1 b M q.2) 52 M (if rdy (msN S q.1 b M q.2) (nI b) then (1 : Int32) else 0)).1 51 m = q.1.1 51 m := fun m hm => by
      rw [pa_n _ _ (by decide)]
      unfold msN
      rw [pa_n _ _ (by decide), pa_i _ _ hm]
      exact mx_n (by decide)
    have hg2 : (pa (msN S q.1 b M q.2) 52 M (if rdy (msN S q.1 b M q.2) (nI b) then (1 : Int32) else 0)).2 = q.1.2 := by
      show (msN S q.1 b M q.2).2 = q.1.2
      rfl
    have hR : RJ (mkT (pa (msN S q.1 b M q.2) 52 M (if rdy (msN S q.1 b M q.2) (nI b) then (1 : Int32) else 0)) b M (nn (S.1 17 b))) Q1 J4 := send_RJ (G := (pa (msN S q.1 b M q.2) 52 M (if rdy (msN S q.1 b M q.2) (nI b) then (1 : Int32) else 0))) (f := f) R1 (by rw [hT48]; exact hM) hM2 hc40 hms (by omega) (by omega) (by omega) h13q Fr.rf (by show LL _ 26 b (kpL (msN S q.1 b M q.2) b); rw [show kpL (msN S q.1 b M q.2) b = kpL q.1 b from by unfold kpL; rw [ekp]]; exact h26q) hF3 hL3 hF4 hL4 (fun k hk => by
      rw [← xg k hk]
      funext j
      exact pa_n _ _ (by omega)) hg2 x48 hg51 hg51n hgk
    rw [← hmk] at hR
    refine ⟨rfl, Q1, J4, hfin, hR, ?_⟩
    intro k i x hk
    rw [hF4.k (by omega) (by omega), hF3.k (by omega) (by omega), hu_n (kd_nk (by omega))]
    exact F1 k i x hk
  have h_37 := bz_t c_37
  refine V_aload_n X dX8_send_40 rfl rfl ?_
  refine V_dup X dX8_send_41 rfl ?_
  apply V_get X dX8_send_42 fk_X8_286
  · exact at_sub (hb2)
  · exact rfl
  refine V_iconst (v := 1) X dX8_send_45 (by decide) ?_
  refine V_iadd X dX8_send_46 ?_
  refine P5_10 X dX8_send_47 fk_X8_286 (hb2) ?_
  refine V_aload_n X dX8_send_50 rfl rfl ?_
  refine V_aload_n X dX8_send_51 rfl rfl ?_
  apply V_callV1 X dX8_send_52 mk_X8_359 iv_X7_keepMessage (k_keep l (T := (pa (msN S q.1 b M q.2) 24 b ((msN S q.1 b M q.2).1 24 b + 1))) (M := M) hb2 (by rw [show kpL (pa (msN S q.1 b M q.2) 24 b ((msN S q.1 b M q.2).1 24 b + 1)) b = kpL q.1 b from by unfold kpL; rw [show kpI (pa (msN S q.1 b M q.2) 24 b ((msN S q.1 b M q.2).1 24 b + 1)) b = kpI (msN S q.1 b M q.2) b from rfl, ekp]]; exact h26q) e48 (by simp [msN, mx, mkA, pa_1]) hT54 (by rw [show kpA (pa (msN S q.1 b M q.2) 24 b ((msN S q.1 b M q.2).1 24 b + 1)) (nI b) = (kpI (pa (msN S q.1 b M q.2) 24 b ((msN S q.1 b M q.2).1 24 b + 1)) b).length from kp_len _, show kpI (pa (msN S q.1 b M q.2) 24 b ((msN S q.1 b M q.2).1 24 b + 1)) b = kpI (msN S q.1 b M q.2) b from rfl, ekp, show kpI q.1 b = kpI S b from kpI_cg (by funext j; exact hT0 54 (by decide) j) (by funext j; exact hT0 49 (by decide) j) hT48, ← show kpA S (nI b) = (kpI S b).length from kp_len _]; exact hkp))
  · exact at_sub (hb2)
  · exact rfl
  · exact Nat.le_of_ble_eq_true rfl
  · exact ⟨Nat.le_of_ble_eq_true rfl, Nat.le_of_ble_eq_true rfl⟩
  · exact ⟨by dsimp only [rmm]; omega, by dsimp only [rmm]; omega⟩
  rintro r I1 ⟨rfl, J2, rfl, hF26, hL26⟩
  refine V_aload_n X dX8_send_55 rfl rfl ?_
  refine V_aload_n X dX8_send_56 rfl rfl ?_
  have x15 : (pa (mkK (pa (msN S q.1 b M q.2) 24 b ((msN S q.1 b M q.2).1 24 b + 1)) b) 54 M 1).1 15 0 = q.1.1 15 0 := (pa_n _ _ (by decide)).trans ((mkK_k (k := 15) (by decide)))
  have x8 : (pa (mkK (pa (msN S q.1 b M q.2) 24 b ((msN S q.1 b M q.2).1 24 b + 1)) b) 54 M 1).1 8 0 = q.1.1 8 0 := (pa_n _ _ (by decide)).trans ((mkK_k (k := 8) (by decide)))
  have x32 : (pa (mkK (pa (msN S q.1 b M q.2) 24 b ((msN S q.1 b M q.2).1 24 b + 1)) b) 54 M 1).1 32 0 = q.1.1 32 0 := (pa_n _ _ (by decide)).trans ((mkK_k (k := 32) (by decide)))
  have x17 : (pa (mkK (pa (msN S q.1 b M q.2) 24 b ((msN S q.1 b M q.2).1 24 b + 1)) b) 54 M 1).1 17 b = S.1 17 b := ((pa_n _ _ (by decide)).trans ((mkK_k (k := 17) (by decide)))).trans (hT0 17 (by decide) b)
  have x48 : (pa (mkK (pa (msN S q.1 b M q.2) 24 b ((msN S q.1 b M q.2).1 24 b + 1)) b) 54 M 1).1 48 0 = nI (M + 1) := (pa_n _ _ (by decide)).trans ((mkK_k (k := 48) (by decide)))
  have xit : itI (pa (mkK (pa (msN S q.1 b M q.2) 24 b ((msN S q.1 b M q.2).1 24 b + 1)) b) 54 M 1) b = itI q.1 b := by
    unfold itI siB siP
    rw [x32, show (pa (mkK (pa (msN S q.1 b M q.2) 24 b ((msN S q.1 b M q.2).1 24 b + 1)) b) 54 M 1).1 33 = q.1.1 33 from by funext j; exact (pa_n _ _ (by decide)).trans ((mkK_k (k := 33) (by decide))), show (pa (mkK (pa (msN S q.1 b M q.2) 24 b ((msN S q.1 b M q.2).1 24 b + 1)) b) 54 M 1).1 34 = q.1.1 34 from by funext j; exact (pa_n _ _ (by decide)).trans ((mkK_k (k := 34) (by decide)))]
  have xql : QL (pa (mkK (pa (msN S q.1 b M q.2) 24 b ((msN S q.1 b M q.2).1 24 b + 1)) b) 54 M 1) Q1 J2 := fun i hi => by
    rw [x32] at hi
    have h0 := hQq i hi
    refine ⟨h0.1.fr hF26 (by decide) (by decide) (by decide) (Or.inl (by decide)), ?_, ?_⟩
    · rw [show (pa (mkK (pa (msN S q.1 b M q.2) 24 b ((msN S q.1 b M q.2).1 24 b + 1)) b) 54 M 1).1 44 i = q.1.1 44 i from (pa_n _ _ (by decide)).trans ((mkK_k (k := 44) (by decide)))]
      exact h0.2.1
    · rw [show (pa (mkK (pa (msN S q.1 b M q.2) 24 b ((msN S q.1 b M q.2).1 24 b + 1)) b) 54 M 1).1 44 i = q.1.1 44 i from (pa_n _ _ (by decide)).trans ((mkK_k (k := 44) (by decide)))]
      exact h0.2.2
  have x24 : LL J2 24 b (itL (pa (mkK (pa (msN S q.1 b M q.2) 24 b ((msN S q.1 b M q.2).1 24 b + 1)) b) 54 M 1) b) := by
    unfold itL
    rw [xit]
    exact h24q.fr hF26 (by decide) (by decide) (by decide) (Or.inl (by decide))
  have xb : b < nn ((pa (mkK (pa (msN S q.1 b M q.2) 24 b ((msN S q.1 b M q.2).1 24 b + 1)) b) 54 M 1).1 15 0) := by rw [x15]; omega
  have xm : M < nn ((pa (mkK (pa (msN S q.1 b M q.2) 24 b ((msN S q.1 b M q.2).1 24 b + 1)) b) 54 M 1).1 48 0) := by rw [x48, nnI (by omega)]; omega
  have xa : nn (S.1 17 b) < nn ((pa (mkK (pa (msN S q.1 b M q.2) 24 b ((msN S q.1 b M q.2).1 24 b + 1)) b) 54 M 1).1 8 0) := by rw [x8]; omega
  have xg : ∀ k, k ≠ 48 ∧ k ≠ 49 ∧ k ≠ 50 ∧ k ≠ 53 ∧ k ≠ 24 ∧ k ≠ 70 ∧ k ≠ 51 ∧ k ≠ 52 ∧ k ≠ 54 → (pa (mkK (pa (msN S q.1 b M q.2) 24 b ((msN S q.1 b M q.2).1 24 b + 1)) b) 54 M 1).1 k = q.1.1 k := fun k hk => by
    funext j
    rw [pa_n _ _ (by omega), mkK_k (by omega), pa_n _ _ (by omega)]
    unfold msN
    rw [pa_n _ _ (by omega), pa_n _ _ (by omega)]
    exact mx_n (by omega)
  apply V_callV0 X dX8_send_57 mk_X8_297 iv_X7_isReady (k_ready l (S := (pa (mkK (pa (msN S q.1 b M q.2) 24 b ((msN S q.1 b M q.2).1 24 b + 1)) b) 54 M 1)) xb x24 xql (by rw [x32]; omega) (by omega))
  · exact at_sub (xb)
  · exact rfl
  · exact Nat.le_of_ble_eq_true rfl
  · exact ⟨Nat.le_of_ble_eq_true rfl, Nat.le_of_ble_eq_true rfl⟩
  · exact ⟨by dsimp only [rmm]; omega, by dsimp only [rmm]; omega⟩
  rintro r I1 ⟨rfl, rfl⟩
  refine P8_5 X dX8_send_60 fk_X8_264 (xm) (b01) ?_
  refine V_aload_n X dX8_send_63 rfl rfl ?_
  refine V_aload_n X dX8_send_64 rfl rfl ?_
  apply V_get X dX8_send_65 fk_X8_264
  · exact at_ms (xm)
  · exact rfl
  refine P5_14 X dX8_send_68 fk_X8_348 (xb) (by rw [pa_s]; exact b01) ?_
  refine V_aload_n X dX8_send_71 rfl rfl ?_
  refine V_iconst (v := 1) X dX8_send_72 (by decide) ?_
  refine P5_13 X dX8_send_73 fk_X8_363 (xb) (Or.inr rfl) ?_
  refine V_aload_n X dX8_send_76 rfl rfl ?_
  refine V_iconst (v := 0) X dX8_send_77 (by decide) ?_
  refine P5_15 X dX8_send_78 fk_X8_292 (xb) (Or.inl rfl) ?_
  refine V_aload_n X dX8_send_81 rfl rfl ?_
  refine V_aload_n X dX8_send_82 rfl rfl ?_
  apply V_get X dX8_send_83 fk_X8_366
  · exact at_sub (xb)
  · exact rfl
  refine P5_11 X dX8_send_86 fk_X8_289 (xb) ?_
  refine V_aload_n X dX8_send_89 rfl rfl ?_
  refine V_aload_n X dX8_send_90 rfl rfl ?_
  apply V_get X dX8_send_91 fk_X8_161
  · exact at_sub (xb)
  · exact rfl
  refine P5_12 X dX8_send_94 fk_X8_164 (xb) ?_
  refine V_aload_n X dX8_send_97 rfl rfl ?_
  apply V_get (v := .ref (kd 4 (nn (S.1 17 b)) 0)) X dX8_send_98 fk_X8_175
  · exact at_sub (xb)
  · exact congrArg (fun z => some (Value.ref (kd 4 (nn z) 0))) x17
  refine V_dup X dX8_send_101 rfl ?_
  apply V_get X dX8_send_102 fk_X8_224
  · exact at_ses (xa)
  · exact rfl
  refine V_iconst (v := 1) X dX8_send_105 (by decide) ?_
  refine V_isub X dX8_send_106 ?_
  refine P4_5 X dX8_send_107 fk_X8_224 (xa) ?_
  refine V_aload_n X dX8_send_110 rfl rfl ?_
  apply V_get (v := .ref (kd 4 (nn (S.1 17 b)) 0)) X dX8_send_111 fk_X8_175
  · exact at_sub (xb)
  · exact congrArg (fun z => some (Value.ref (kd 4 (nn z) 0))) x17
  apply V_get X dX8_send_114 fk_X8_246
  · exact at_ses (xa)
  · exact rfl
  refine V_aload_n X dX8_send_117 rfl rfl ?_
  change V _ _ (ovc (clT (pa (pa (mkK (pa (msN S q.1 b M q.2) 24 b ((msN S q.1 b M q.2).1 24 b + 1)) b) 54 M 1) 52 M (if rdy (pa (mkK (pa (msN S q.1 b M q.2) 24 b ((msN S q.1 b M q.2).1 24 b + 1)) b) 54 M 1) (nI b) then (1 : Int32) else 0)) b M (nn (S.1 17 b))) J2) _ _ _ _ _
  have y48 : M < nn ((clT (pa (pa (mkK (pa (msN S q.1 b M q.2) 24 b ((msN S q.1 b M q.2).1 24 b + 1)) b) 54 M 1) 52 M (if rdy (pa (mkK (pa (msN S q.1 b M q.2) 24 b ((msN S q.1 b M q.2).1 24 b + 1)) b) 54 M 1) (nI b) then (1 : Int32) else 0)) b M (nn (S.1 17 b))).1 48 0) := xm
  have h22k := h22q.fr hF26 (by decide) (by decide) (by decide) (Or.inl (by decide))
  have h20k := h20q.fr hF26 (by decide) (by decide) (by decide) (Or.inl (by decide))
  apply V_callV1 X dX8_send_118 mk_X8_66 iv_Jx4a65c_add_9ea2d (c_add l (by decide) (h22k.ov (S := clT (pa (pa (mkK (pa (msN S q.1 b M q.2) 24 b ((msN S q.1 b M q.2).1 24 b + 1)) b) 54 M 1) 52 M (if rdy (pa (mkK (pa (msN S q.1 b M q.2) 24 b ((msN S q.1 b M q.2).1 24 b + 1)) b) 54 M 1) (nI b) then (1 : Int32) else 0)) b M (nn (S.1 17 b))) rfl rfl) (by omega) (fun x hx => by obtain ⟨m, hm, rfl⟩ := hmlE x hx; exact eo_ms (S := clT (pa (pa (mkK (pa (msN S q.1 b M q.2) 24 b ((msN S q.1 b M q.2).1 24 b + 1)) b) 54 M 1) 52 M (if rdy (pa (mkK (pa (msN S q.1 b M q.2) 24 b ((msN S q.1 b M q.2).1 24 b + 1)) b) 54 M 1) (nI b) then (1 : Int32) else 0)) b M (nn (S.1 17 b))) (by omega)) (eo_ms (S := clT (pa (pa (mkK (pa (msN S q.1 b M q.2) 24 b ((msN S q.1 b M q.2).1 24 b + 1)) b) 54 M 1) 52 M (if rdy (pa (mkK (pa (msN S q.1 b M q.2) 24 b ((msN S q.1 b M q.2).1 24 b + 1)) b) 54 M 1) (nI b) then (1 : Int32) else 0)) b M (nn (S.1 17 b))) y48))
  · exact ll_o (h22k.ov (S := clT (pa (pa (mkK (pa (msN S q.1 b M q.2) 24 b ((msN S q.1 b M q.2).1 24 b + 1)) b) 54 M 1) 52 M (if rdy (pa (mkK (pa (msN S q.1 b M q.2) 24 b ((msN S q.1 b M q.2).1 24 b + 1)) b) 54 M 1) (nI b) then (1 : Int32) else 0)) b M (nn (S.1 17 b))) rfl rfl)
  · exact rfl
  · exact Nat.le_of_ble_eq_true rfl
  · exact ⟨Nat.le_of_ble_eq_true rfl, Nat.le_of_ble_eq_true rfl⟩
  · exact ⟨by dsimp only [rmm]; omega, by dsimp only [rmm]; omega⟩
  rintro r I1 ⟨rfl, hL, hF⟩
  obtain ⟨J3, rfl, hL3, hF3⟩ := LL_ov hF hL rfl rfl
  have h20m := h20k.fr hF3 (by decide) (by decide) (by decide) (Or.inl (by decide))
  have hrl : (rg 8 M).length ≤ 511 := by rw [rg_len]; omega
  refine V_pop X dX8_send_121 rfl ?_
  refine V_aload_n X dX8_send_122 rfl rfl ?_
  apply V_get X dX8_send_123 fk_X8_28
  · exact at_root
  · exact rfl
  refine V_aload_n X dX8_send_126 rfl rfl ?_
  apply V_callV1 X dX8_send_127 mk_X8_66 iv_Jx4a65c_add_9ea2d (c_add l (by decide) (h20m.ov (S := clT (pa (pa (mkK (pa (msN S q.1 b M q.2) 24 b ((msN S q.1 b M q.2).1 24 b + 1)) b) 54 M 1) 52 M (if rdy (pa (mkK (pa (msN S q.1 b M q.2) 24 b ((msN S q.1 b M q.2).1 24 b + 1)) b) 54 M 1) (nI b) then (1 : Int32) else 0)) b M (nn (S.1 17 b))) rfl rfl) (by omega) (fun x hx => by obtain ⟨m, hm, rfl⟩ := rg_mem hx; exact eo_ms (S := clT (pa (pa (mkK (pa (msN S q.1 b M q.2) 24 b ((msN S q.1 b M q.2).1 24 b + 1)) b) 54 M 1) 52 M (if rdy (pa (mkK (pa (msN S q.1 b M q.2) 24 b ((msN S q.1 b M q.2).1 24 b + 1)) b) 54 M 1) (nI b) then (1 : Int32) else 0)) b M (nn (S.1 17 b))) (by omega)) (eo_ms (S := clT (pa (pa (mkK (pa (msN S q.1 b M q.2) 24 b ((msN S q.1 b M q.2).1 24 b + 1)) b) 54 M 1) 52 M (if rdy (pa (mkK (pa (msN S q.1 b M q.2) 24 b ((msN S q.1 b M q.2).1 24 b + 1)) b) 54 M 1) (nI b) then (1 : Int32) else 0)) b M (nn (S.1 17 b))) y48))
  · exact ll_o (h20m.ov (S := clT (pa (pa (mkK (pa (msN S q.1 b M q.2) 24 b ((msN S q.1 b M q.2).1 24 b + 1)) b) 54 M 1) 52 M (if rdy (pa (mkK (pa (msN S q.1 b M q.2) 24 b ((msN S q.1 b M q.2).1 24 b + 1)) b) 54 M 1) (nI b) then (1 : Int32) else 0)) b M (nn (S.1 17 b))) rfl rfl)
  · exact rfl
  · exact Nat.le_of_ble_eq_true rfl
  · exact ⟨Nat.le_of_ble_eq_true rfl, Nat.le_of_ble_eq_true rfl⟩
  · exact ⟨by dsimp only [rmm]; omega, by dsimp only [rmm]; omega⟩
  rintro r I1 ⟨rfl, hL, hF⟩
  obtain ⟨J4, rfl, hL4, hF4⟩ := LL_ov hF hL rfl rfl
  refine V_pop X dX8_send_130 rfl ?_
  refine V_vret X dX8_send_131 ?_ ?_ ?_
  · dsimp only [rmm]; omega
  · dsimp only [rmm]; omega
  have hmk := make_R (r := (if rdy (pa (mkK (pa (msN S q.1 b M q.2) 24 b ((msN S q.1 b M q.2).1 24 b + 1)) b) 54 M 1) (nI b) then (1 : Int32) else 0)) hM h60 h8 (by omega) h_37 (pa (msN S q.1 b M q.2) 24 b ((msN S q.1 b M q.2).1 24 b + 1)) (by rw [hq]) rfl
  have hfin : ovc (clT (pa (pa (mkK (pa (msN S q.1 b M q.2) 24 b ((msN S q.1 b M q.2).1 24 b + 1)) b) 54 M 1) 52 M (if rdy (pa (mkK (pa (msN S q.1 b M q.2) 24 b ((msN S q.1 b M q.2).1 24 b + 1)) b) 54 M 1) (nI b) then (1 : Int32) else 0)) b M (nn (S.1 17 b))) J4 = ovc (makeS S b) J4 := by
    rw [ovc_ml (a := nn (S.1 17 b)) (M := M), ← mkT_cl, hmk]
  have hgk : ∀ b', b' ≠ b → b' < 20 → kpI (pa (pa (mkK (pa (msN S q.1 b M q.2) 24 b ((msN S q.1 b M q.2).1 24 b + 1)) b) 54 M 1) 52 M (if rdy (pa (mkK (pa (msN S q.1 b M q.2) 24 b ((msN S q.1 b M q.2).1 24 b + 1)) b) 54 M 1) (nI b) then (1 : Int32) else 0)) b' = kpI q.1 b' := fun b' h1 h2 => by
    rw [show kpI (pa (pa (mkK (pa (msN S q.1 b M q.2) 24 b ((msN S q.1 b M q.2).1 24 b + 1)) b) 54 M 1) 52 M (if rdy (pa (mkK (pa (msN S q.1 b M q.2) 24 b ((msN S q.1 b M q.2).1 24 b + 1)) b) 54 M 1) (nI b) then (1 : Int32) else 0)) b' = kpI (pa (mkK (pa (msN S q.1 b M q.2) 24 b ((msN S q.1 b M q.2).1 24 b + 1)) b) 54 M 1) b' from rfl, kpI_new (T := mkK (pa (msN S q.1 b M q.2) 24 b ((msN S q.1 b M q.2).1 24 b + 1)) b) (b := b) (by rw [mkK_k (by decide)]; exact e48) (by rw [mkK_k (by decide)]; simp [msN, mx, mkA, pa_1]) ?_, if_neg (fun z => h1 (nI_inj z (by omega) (by omega)).symm), List.append_nil, kpI_K (fun z => h1 (nI_inj z (by omega) (by omega))), show kpI (pa (msN S q.1 b M q.2) 24 b ((msN S q.1 b M q.2).1 24 b + 1)) b' = kpI (msN S q.1 b M q.2) b' from rfl, ekp]
    exact mkK_54 hT54
  have hg51 : (pa (pa (mkK (pa (msN S q.1 b M q.2) 24 b ((msN S q.1 b M q.2).1 24 b + 1)) b) 54 M 1) 52 M (if rdy (pa (mkK (pa (msN S q.1 b M q.2) 24 b ((msN S q.1 b M q.2).1 24 b + 1)) b) 54 M 1) (nI b) then (1 : Int32) else 0)).1 51 M = nI q.2 := by
    rw [pa_n _ _ (by decide), pa_n _ _ (by decide), mkK_k (by decide), pa_n _ _ (by decide)]
    unfold msN
    rw [pa_n _ _ (by decide), pa_s]
  have hg51n : ∀ m, m ≠ M → (pa (pa (mkK (pa (msN S q.1 b M q.2) 24 b ((msN S q.1 b M q.2).1 24 b + 1)) b) 54 M 1) 52 M (if rdy (pa (mkK (pa (msN S q.1 b M q.2) 24 b ((msN S q.1 b M q.2).1 24 b + 1)) b) 54 M 1) (nI b) then (1 : Int32) else 0)).1 51 m = q.1.1 51 m := fun m hm => by
    rw [pa_n _ _ (by decide), pa_n _ _ (by decide), mkK_k (by decide), pa_n _ _ (by decide)]
    unfold msN
    rw [pa_n _ _ (by decide), pa_i _ _ hm]
    exact mx_n (by decide)
  have hg2 : (pa (pa (mkK (pa (msN S q.1 b M q.2) 24 b ((msN S q.1 b M q.2).1 24 b + 1)) b) 54 M 1) 52 M (if rdy (pa (mkK (pa (msN S q.1 b M q.2) 24 b ((msN S q.1 b M q.2).1 24 b + 1)) b) 54 M 1) (nI b) then (1 : Int32) else 0)).2 = q.1.2 := by
    show (mkK (pa (msN S q.1 b M q.2) 24 b ((msN S q.1 b M q.2).1 24 b + 1)) b).2 = q.1.2
    rw [mkK_2]
    rfl
  have hR : RJ (mkT (pa (pa (mkK (pa (msN S q.1 b M q.2) 24 b ((msN S q.1 b M q.2).1 24 b + 1)) b) 54 M 1) 52 M (if rdy (pa (mkK (pa (msN S q.1 b M q.2) 24 b ((msN S q.1 b M q.2).1 24 b + 1)) b) 54 M 1) (nI b) then (1 : Int32) else 0)) b M (nn (S.1 17 b))) Q1 J4 := send_RJ (G := (pa (pa (mkK (pa (msN S q.1 b M q.2) 24 b ((msN S q.1 b M q.2).1 24 b + 1)) b) 54 M 1) 52 M (if rdy (pa (mkK (pa (msN S q.1 b M q.2) 24 b ((msN S q.1 b M q.2).1 24 b + 1)) b) 54 M 1) (nI b) then (1 : Int32) else 0))) (f := f) R1 (by rw [hT48]; exact hM) hM2 hc40 hms (by omega) (by omega) (by omega) h13q hF26 hL26 hF3 hL3 hF4 hL4 (fun k hk => by
    rw [← xg k hk]
    funext j
    exact pa_n _ _ (by omega)) hg2 x48 hg51 hg51n hgk
  rw [← hmk] at hR
  refine ⟨rfl, Q1, J4, hfin, hR, ?_⟩
  intro k i x hk
  rw [hF4.k (by omega) (by omega), hF3.k (by omega) (by omega), hF26.k (by omega) (by omega), hu_n (kd_nk (by omega))]
  exact F1 k i x hk
