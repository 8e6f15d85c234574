/-! a new item -/
set_option maxRecDepth 100000 in
set_option maxHeartbeats 4000000 in
theorem n_qu (l : Launch) {I : aH} {i : Nat} {a b : Int32} (h : I (kd 7 i 0) = some (.inr (5, [.int 0, .int 0, .null]))) (hz : I zed = some (.inl (3, aR 0 (fun _ => none)))) (hf : FrL I 28 i) (hb : b = 0 ∨ b = 1) : AM l yX4_init cX4_init 3 none (rmm 4 1 3 80) [.ref (kd 7 i 0), .int a, .int b] I (fun r I' => r = none ∧ ∃ I2, Fr 28 i I I2 ∧ LL I2 28 i [] ∧ I' = hu I2 (kd 7 i 0) (.inr (5, [.int a, .int b, .ref (kd 28 i 0)]))) := by
  refine AM_of RX4 (by decide) rfl [some (.ref (kd 7 i 0)), some (.int a), some (.int b)] rfl (Nat.le_of_ble_eq_true rfl) (fun Z X hNm => ?_)
  refine V_aload_n X dX4_init_0 rfl rfl ?_
  refine V_objInit X dX4_init_1 ol_X4_1 ob_i ob_c (Nat.le_of_ble_eq_true rfl) (Nat.le_of_ble_eq_true rfl) ?_
  refine V_aload_n X dX4_init_4 rfl rfl ?_
  refine V_new X dX4_init_5 nk_X4_7 (kd 28 i 0) ?_ ?_ ?_ ?_ ?_ ?_
  · exact (hf 0).1
  · exact kd_nk (by decide)
  · exact ro_k (by decide)
  · dsimp only [rmm]; omega
  · dsimp only [rmm]; omega
  refine V_dup X dX4_init_8 rfl ?_
  refine V_callI0 X dX4_init_9 mk_X4_9 ii_Jx4a65c_init_da8c8 (c_lInit l (by decide) hu_s ((hu_n (kd_nk (by decide))).trans hz) (fun g => (hu_n (kd_nk (by decide))).trans (hf g).2)) (Nat.le_of_ble_eq_true rfl) ⟨Nat.le_of_ble_eq_true rfl, Nat.le_of_ble_eq_true rfl⟩ ?_ ?_
  · exact ⟨by dsimp only [rmm]; omega, by dsimp only [rmm]; omega⟩
  rintro r I1 ⟨rfl, hL, hF⟩
  have h0 : I1 (kd 7 i 0) = some (.inr (5, [.int 0, .int 0, .null])) := (hF.k (by decide) (by decide)).trans ((hu_n (kd_nk (by decide))).trans h)
  apply V_putF X hNm dX4_init_12 fp_X4_10
  · first | assumption | exact hu_s | exact (hu_n (by first | exact kd_nk (by decide) | exact kd_ni (by omega) | exact kd_ng (by omega) | assumption | exact Ne.symm (by assumption))).trans (by first | assumption | exact hu_s | exact (hu_n (by first | exact kd_nk (by decide) | exact kd_ni (by omega) | exact kd_ng (by omega) | assumption | exact Ne.symm (by assumption))).trans (by first | assumption | exact hu_s | exact (hu_n (by first | exact kd_nk (by decide) | exact kd_ni (by omega) | exact kd_ng (by omega) | assumption | exact Ne.symm (by assumption))).trans (by first | assumption | exact hu_s)))
  · exact ro_k (by decide)
  · exact Nat.le_of_ble_eq_true rfl
  · exact rfl
  · exact rfl
  refine V_aload_n X dX4_init_15 rfl rfl ?_
  refine V_iload_n X dX4_init_16 rfl ?_
  apply V_putF X hNm dX4_init_17 fp_X4_16
  · first | assumption | exact hu_s | exact (hu_n (by first | exact kd_nk (by decide) | exact kd_ni (by omega) | exact kd_ng (by omega) | assumption | exact Ne.symm (by assumption))).trans (by first | assumption | exact hu_s | exact (hu_n (by first | exact kd_nk (by decide) | exact kd_ni (by omega) | exact kd_ng (by omega) | assumption | exact Ne.symm (by assumption))).trans (by first | assumption | exact hu_s | exact (hu_n (by first | exact kd_nk (by decide) | exact kd_ni (by omega) | exact kd_ng (by omega) | assumption | exact Ne.symm (by assumption))).trans (by first | assumption | exact hu_s)))
  · exact ro_k (by decide)
  · exact Nat.le_of_ble_eq_true rfl
  · exact rfl
  · exact rfl
  refine V_aload_n X dX4_init_20 rfl rfl ?_
  refine V_iload_n X dX4_init_21 rfl ?_
  apply V_putF X hNm dX4_init_22 fp_X4_20
  · first | assumption | exact hu_s | exact (hu_n (by first | exact kd_nk (by decide) | exact kd_ni (by omega) | exact kd_ng (by omega) | assumption | exact Ne.symm (by assumption))).trans (by first | assumption | exact hu_s | exact (hu_n (by first | exact kd_nk (by decide) | exact kd_ni (by omega) | exact kd_ng (by omega) | assumption | exact Ne.symm (by assumption))).trans (by first | assumption | exact hu_s | exact (hu_n (by first | exact kd_nk (by decide) | exact kd_ni (by omega) | exact kd_ng (by omega) | assumption | exact Ne.symm (by assumption))).trans (by first | assumption | exact hu_s)))
  · exact ro_k (by decide)
  · exact Nat.le_of_ble_eq_true rfl
  · exact (by rcases hb with rfl | rfl <;> rfl)
  · exact (by rcases hb with rfl | rfl <;> rfl)
  refine V_vret X dX4_init_25 ?_ ?_ ?_
  · dsimp only [rmm]; omega
  · dsimp only [rmm]; omega
  exact ⟨rfl, I1, Fr.tr Fr.o hF, hL, by rw [hu_hu, hu_hu]; rfl⟩
set_option maxRecDepth 100000 in
set_option maxHeartbeats 4000000 in
theorem n_it (l : Launch) {I : aH} {i b n q : Nat} {a t ev : Int32} {wd : Int64} (h : I (kd 6 i 0) = some (.inr (2, [.int 0, .null, .null, .int 0, .int 0, .long 0, .null, .int 0, .int 0, .long 0, .int 0]))) : AM l yX1_init cX1_init 9 none (rmm 1 0 0 30) [.ref (kd 6 i 0), .int a, .ref b, .ref n, .int t, .int ev, .long wd, .ref q] I (fun r I' => r = none ∧ I' = hu I (kd 6 i 0) (.inr (2, [.int a, .ref b, .ref n, .int t, .int ev, .long wd, .ref q, .int 0, .int 0, .long 0, .int 0]))) := by
  refine AM_of RX1 (by decide) rfl [some (.ref (kd 6 i 0)), some (.int a), some (.ref b), some (.ref n), some (.int t), some (.int ev), some (.long wd), none, some (.ref q)] rfl (Nat.le_of_ble_eq_true rfl) (fun Z X hNm => ?_)
  refine V_aload_n X dX1_init_0 rfl rfl ?_
  refine V_objInit X dX1_init_1 ol_X1_1 ob_i ob_c (Nat.le_of_ble_eq_true rfl) (Nat.le_of_ble_eq_true rfl) ?_
  refine V_aload_n X dX1_init_4 rfl rfl ?_
  refine V_iconst (v := 0) X dX1_init_5 (by decide) ?_
  apply V_put X dX1_init_6 fk_X1_9
  · first | assumption | exact hu_s | exact (hu_n (by first | exact kd_nk (by decide) | exact kd_ni (by omega) | exact kd_ng (by omega) | assumption | exact Ne.symm (by assumption))).trans (by first | assumption | exact hu_s | exact (hu_n (by first | exact kd_nk (by decide) | exact kd_ni (by omega) | exact kd_ng (by omega) | assumption | exact Ne.symm (by assumption))).trans (by first | assumption | exact hu_s | exact (hu_n (by first | exact kd_nk (by decide) | exact kd_ni (by omega) | exact kd_ng (by omega) | assumption | exact Ne.symm (by assumption))).trans (by first | assumption | exact hu_s)))
  · exact ro_k (by decide)
  · exact Nat.le_of_ble_eq_true rfl
  · exact rfl
  · exact rfl
  refine V_aload_n X dX1_init_9 rfl rfl ?_
  refine V_iconst (v := 0) X dX1_init_10 (by decide) ?_
  apply V_put X dX1_init_11 fk_X1_13
  · first | assumption | exact hu_s | exact (hu_n (by first | exact kd_nk (by decide) | exact kd_ni (by omega) | exact kd_ng (by omega) | assumption | exact Ne.symm (by assumption))).trans (by first | assumption | exact hu_s | exact (hu_n (by first | exact kd_nk (by decide) | exact kd_ni (by omega) | exact kd_ng (by omega) | assumption | exact Ne.symm (by assumption))).trans (by first | assumption | exact hu_s | exact (hu_n (by first | exact kd_nk (by decide) | exact kd_ni (by omega) | exact kd_ng (by omega) | assumption | exact Ne.symm (by assumption))).trans (by first | assumption | exact hu_s)))
  · exact ro_k (by decide)
  · exact Nat.le_of_ble_eq_true rfl
  · exact rfl
  · exact rfl
  refine V_aload_n X dX1_init_14 rfl rfl ?_
  refine V_lconst (v := 0) X dX1_init_15 (by decide) ?_
  apply V_put X dX1_init_16 fk_X1_17
  · first | assumption | exact hu_s | exact (hu_n (by first | exact kd_nk (by decide) | exact kd_ni (by omega) | exact kd_ng (by omega) | assumption | exact Ne.symm (by assumption))).trans (by first | assumption | exact hu_s | exact (hu_n (by first | exact kd_nk (by decide) | exact kd_ni (by omega) | exact kd_ng (by omega) | assumption | exact Ne.symm (by assumption))).trans (by first | assumption | exact hu_s | exact (hu_n (by first | exact kd_nk (by decide) | exact kd_ni (by omega) | exact kd_ng (by omega) | assumption | exact Ne.symm (by assumption))).trans (by first | assumption | exact hu_s)))
  · exact ro_k (by decide)
  · exact Nat.le_of_ble_eq_true rfl
  · exact rfl
  · exact rfl
  refine V_aload_n X dX1_init_19 rfl rfl ?_
  refine V_iconst (v := 0) X dX1_init_20 (by decide) ?_
  apply V_put X dX1_init_21 fk_X1_21
  · first | assumption | exact hu_s | exact (hu_n (by first | exact kd_nk (by decide) | exact kd_ni (by omega) | exact kd_ng (by omega) | assumption | exact Ne.symm (by assumption))).trans (by first | assumption | exact hu_s | exact (hu_n (by first | exact kd_nk (by decide) | exact kd_ni (by omega) | exact kd_ng (by omega) | assumption | exact Ne.symm (by assumption))).trans (by first | assumption | exact hu_s | exact (hu_n (by first | exact kd_nk (by decide) | exact kd_ni (by omega) | exact kd_ng (by omega) | assumption | exact Ne.symm (by assumption))).trans (by first | assumption | exact hu_s)))
  · exact ro_k (by decide)
  · exact Nat.le_of_ble_eq_true rfl
  · exact rfl
  · exact rfl
  refine V_aload_n X dX1_init_24 rfl rfl ?_
  refine V_iload_n X dX1_init_25 rfl ?_
  apply V_putF X hNm dX1_init_26 fp_X1_24
  · first | assumption | exact hu_s | exact (hu_n (by first | exact kd_nk (by decide) | exact kd_ni (by omega) | exact kd_ng (by omega) | assumption | exact Ne.symm (by assumption))).trans (by first | assumption | exact hu_s | exact (hu_n (by first | exact kd_nk (by decide) | exact kd_ni (by omega) | exact kd_ng (by omega) | assumption | exact Ne.symm (by assumption))).trans (by first | assumption | exact hu_s | exact (hu_n (by first | exact kd_nk (by decide) | exact kd_ni (by omega) | exact kd_ng (by omega) | assumption | exact Ne.symm (by assumption))).trans (by first | assumption | exact hu_s)))
  · exact ro_k (by decide)
  · exact Nat.le_of_ble_eq_true rfl
  · exact rfl
  · exact rfl
  refine V_aload_n X dX1_init_29 rfl rfl ?_
  refine V_aload_n X dX1_init_30 rfl rfl ?_
  apply V_putF X hNm dX1_init_31 fp_X1_27
  · first | assumption | exact hu_s | exact (hu_n (by first | exact kd_nk (by decide) | exact kd_ni (by omega) | exact kd_ng (by omega) | assumption | exact Ne.symm (by assumption))).trans (by first | assumption | exact hu_s | exact (hu_n (by first | exact kd_nk (by decide) | exact kd_ni (by omega) | exact kd_ng (by omega) | assumption | exact Ne.symm (by assumption))).trans (by first | assumption | exact hu_s | exact (hu_n (by first | exact kd_nk (by decide) | exact kd_ni (by omega) | exact kd_ng (by omega) | assumption | exact Ne.symm (by assumption))).trans (by first | assumption | exact hu_s)))
  · exact ro_k (by decide)
  · exact Nat.le_of_ble_eq_true rfl
  · exact rfl
  · exact rfl
  refine V_aload_n X dX1_init_34 rfl rfl ?_
  refine V_aload_n X dX1_init_35 rfl rfl ?_
  apply V_putF X hNm dX1_init_36 fp_X1_31
  · first | assumption | exact hu_s | exact (hu_n (by first | exact kd_nk (by decide) | exact kd_ni (by omega) | exact kd_ng (by omega) | assumption | exact Ne.symm (by assumption))).trans (by first | assumption | exact hu_s | exact (hu_n (by first | exact kd_nk (by decide) | exact kd_ni (by omega) | exact kd_ng (by omega) | assumption | exact Ne.symm (by assumption))).trans (by first | assumption | exact hu_s | exact (hu_n (by first | exact kd_nk (by decide) | exact kd_ni (by omega) | exact kd_ng (by omega) | assumption | exact Ne.symm (by assumption))).trans (by first | assumption | exact hu_s)))
  · exact ro_k (by decide)
  · exact Nat.le_of_ble_eq_true rfl
  · exact rfl
  · exact rfl
  refine V_aload_n X dX1_init_39 rfl rfl ?_
  refine V_iload X dX1_init_40 rfl ?_
  apply V_putF X hNm dX1_init_42 fp_X1_35
  · first | assumption | exact hu_s | exact (hu_n (by first | exact kd_nk (by decide) | exact kd_ni (by omega) | exact kd_ng (by omega) | assumption | exact Ne.symm (by assumption))).trans (by first | assumption | exact hu_s | exact (hu_n (by first | exact kd_nk (by decide) | exact kd_ni (by omega) | exact kd_ng (by omega) | assumption | exact Ne.symm (by assumption))).trans (by first | assumption | exact hu_s | exact (hu_n (by first | exact kd_nk (by decide) | exact kd_ni (by omega) | exact kd_ng (by omega) | assumption | exact Ne.symm (by assumption))).trans (by first | assumption | exact hu_s)))
  · exact ro_k (by decide)
  · exact Nat.le_of_ble_eq_true rfl
  · exact rfl
  · exact rfl
  refine V_aload_n X dX1_init_45 rfl rfl ?_
  refine V_iload X dX1_init_46 rfl ?_
  apply V_putF X hNm dX1_init_48 fp_X1_38
  · first | assumption | exact hu_s | exact (hu_n (by first | exact kd_nk (by decide) | exact kd_ni (by omega) | exact kd_ng (by omega) | assumption | exact Ne.symm (by assumption))).trans (by first | assumption | exact hu_s | exact (hu_n (by first | exact kd_nk (by decide) | exact kd_ni (by omega) | exact kd_ng (by omega) | assumption | exact Ne.symm (by assumption))).trans (by first | assumption | exact hu_s | exact (hu_n (by first | exact kd_nk (by decide) | exact kd_ni (by omega) | exact kd_ng (by omega) | assumption | exact Ne.symm (by assumption))).trans (by first | assumption | exact hu_s)))
  · exact ro_k (by decide)
  · exact Nat.le_of_ble_eq_true rfl
  · exact rfl
  · exact rfl
  refine V_aload_n X dX1_init_51 rfl rfl ?_
  refine V_lload X dX1_init_52 rfl ?_
  apply V_putF X hNm dX1_init_54 fp_X1_41
  · first | assumption | exact hu_s | exact (hu_n (by first | exact kd_nk (by decide) | exact kd_ni (by omega) | exact kd_ng (by omega) | assumption | exact Ne.symm (by assumption))).trans (by first | assumption | exact hu_s | exact (hu_n (by first | exact kd_nk (by decide) | exact kd_ni (by omega) | exact kd_ng (by omega) | assumption | exact Ne.symm (by assumption))).trans (by first | assumption | exact hu_s | exact (hu_n (by first | exact kd_nk (by decide) | exact kd_ni (by omega) | exact kd_ng (by omega) | assumption | exact Ne.symm (by assumption))).trans (by first | assumption | exact hu_s)))
  · exact ro_k (by decide)
  · exact Nat.le_of_ble_eq_true rfl
  · exact rfl
  · exact rfl
  refine V_aload_n X dX1_init_57 rfl rfl ?_
  refine V_aload X dX1_init_58 rfl rfl ?_
  apply V_putF X hNm dX1_init_60 fp_X1_44
  · first | assumption | exact hu_s | exact (hu_n (by first | exact kd_nk (by decide) | exact kd_ni (by omega) | exact kd_ng (by omega) | assumption | exact Ne.symm (by assumption))).trans (by first | assumption | exact hu_s | exact (hu_n (by first | exact kd_nk (by decide) | exact kd_ni (by omega) | exact kd_ng (by omega) | assumption | exact Ne.symm (by assumption))).trans (by first | assumption | exact hu_s | exact (hu_n (by first | exact kd_nk (by decide) | exact kd_ni (by omega) | exact kd_ng (by omega) | assumption | exact Ne.symm (by assumption))).trans (by first | assumption | exact hu_s)))
  · exact ro_k (by decide)
  · exact Nat.le_of_ble_eq_true rfl
  · exact rfl
  · exact rfl
  refine V_vret X dX1_init_63 ?_ ?_ ?_
  · dsimp only [rmm]; omega
  · dsimp only [rmm]; omega
  exact ⟨rfl, by rw [hu_hu, hu_hu, hu_hu, hu_hu, hu_hu, hu_hu, hu_hu, hu_hu, hu_hu, hu_hu]; rfl⟩
set_option maxRecDepth 100000 in
set_option maxHeartbeats 4000000 in
theorem k_mayI (l : Launch) {I : aH} (ev sz m : Int32) (wd : Int64) : AM l yX1_mayHave cX1_mayHave 5 (some .boolean) (rmm 1 0 0 22) [.int ev, .int sz, .int m, .long wd] I (fun r I' => r = some (.int (if goodI ev sz m wd then 1 else 0)) ∧ I' = I) := by
  refine AM_of RX1 (by decide) rfl [some (.int ev), some (.int sz), some (.int m), some (.long wd), none] rfl (Nat.le_of_ble_eq_true rfl) (fun Z X hNm => ?_)
  refine V_iload_n X dX1_mayHave_0 rfl ?_
  refine V_iconst (v := 1) X dX1_mayHave_1 (by decide) ?_
  refine V_bipush (v := 100) X dX1_mayHave_2 (by decide) ?_
  refine V_callSN (host := RX8) X dX1_mayHave_4 (by decide) in_X8_isWithin cd_X8_isWithin pn_X8_isWithin st_X8_isWithin _ [] (k_within l ev 1 100) rfl rfl (Nat.le_of_ble_eq_true rfl) ⟨Nat.le_of_ble_eq_true rfl, Nat.le_of_ble_eq_true rfl⟩ ?_ ?_
  · exact ⟨by dsimp only [rmm]; omega, by dsimp only [rmm]; omega⟩
  rintro r I1 ⟨rfl, rfl⟩
  refine V_if_eq X dX1_mayHave_7 39 (by decide) (fun c_7 => ?_) (fun c_7 => ?_)
  · have h_7 := bz_f c_7
    refine V_iconst (v := 0) X dX1_mayHave_39 (by decide) ?_
    refine V_iret X dX1_mayHave_40 ?_ ?_ ?_ ?_
    · exact rfl
    · dsimp only [rmm]; omega
    · dsimp only [rmm]; omega
    exact ⟨by rw [if_neg (fun q => h_7 q.1)], rfl⟩
  have h_7 := bz_t c_7
  refine V_iload_n X dX1_mayHave_10 rfl ?_
  refine V_iconst (v := 1) X dX1_mayHave_11 (by decide) ?_
  refine V_bipush (v := 8) X dX1_mayHave_12 (by decide) ?_
  refine V_callSN (host := RX8) X dX1_mayHave_14 (by decide) in_X8_isWithin cd_X8_isWithin pn_X8_isWithin st_X8_isWithin _ [] (k_within l sz 1 8) rfl rfl (Nat.le_of_ble_eq_true rfl) ⟨Nat.le_of_ble_eq_true rfl, Nat.le_of_ble_eq_true rfl⟩ ?_ ?_
  · exact ⟨by dsimp only [rmm]; omega, by dsimp only [rmm]; omega⟩
  rintro r I1 ⟨rfl, rfl⟩
  refine V_if_eq X dX1_mayHave_17 39 (by decide) (fun c_17 => ?_) (fun c_17 => ?_)
  · have h_17 := bz_f c_17
    refine V_iconst (v := 0) X dX1_mayHave_39 (by decide) ?_
    refine V_iret X dX1_mayHave_40 ?_ ?_ ?_ ?_
    · exact rfl
    · dsimp only [rmm]; omega
    · dsimp only [rmm]; omega
    exact ⟨by rw [if_neg (fun q => h_17 q.2.1)], rfl⟩
  have h_17 := bz_t c_17
  refine V_iload_n X dX1_mayHave_20 rfl ?_
  refine V_iconst (v := 0) X dX1_mayHave_21 (by decide) ?_
  refine V_iconst (v := 2) X dX1_mayHave_22 (by decide) ?_
  refine V_callSN (host := RX8) X dX1_mayHave_23 (by decide) in_X8_isWithin cd_X8_isWithin pn_X8_isWithin st_X8_isWithin _ [] (k_within l m 0 2) rfl rfl (Nat.le_of_ble_eq_true rfl) ⟨Nat.le_of_ble_eq_true rfl, Nat.le_of_ble_eq_true rfl⟩ ?_ ?_
  · exact ⟨by dsimp only [rmm]; omega, by dsimp only [rmm]; omega⟩
  rintro r I1 ⟨rfl, rfl⟩
  refine V_if_eq X dX1_mayHave_26 39 (by decide) (fun c_26 => ?_) (fun c_26 => ?_)
  · have h_26 := bz_f c_26
    refine V_iconst (v := 0) X dX1_mayHave_39 (by decide) ?_
    refine V_iret X dX1_mayHave_40 ?_ ?_ ?_ ?_
    · exact rfl
    · dsimp only [rmm]; omega
    · dsimp only [rmm]; omega
    exact ⟨by rw [if_neg (fun q => h_26 q.2.2.1)], rfl⟩
  have h_26 := bz_t c_26
  refine V_lload_n X dX1_mayHave_29 rfl ?_
  refine V_lconst (v := 0) X dX1_mayHave_30 (by decide) ?_
  refine V_lcmp X dX1_mayHave_31 ?_
  refine V_if_lt X dX1_mayHave_32 39 (by decide) (fun c_32 => ?_) (fun c_32 => ?_)
  · rw [lg_cmp_lt] at c_32
    refine V_iconst (v := 0) X dX1_mayHave_39 (by decide) ?_
    refine V_iret X dX1_mayHave_40 ?_ ?_ ?_ ?_
    · exact rfl
    · dsimp only [rmm]; omega
    · dsimp only [rmm]; omega
    exact ⟨by rw [if_neg (fun q => q.2.2.2 c_32)], rfl⟩
  rw [lg_cmp_lt] at c_32
  refine V_iconst (v := 1) X dX1_mayHave_35 (by decide) ?_
  refine V_goto X dX1_mayHave_36 40 (by decide) ?_
  refine V_iret X dX1_mayHave_40 ?_ ?_ ?_ ?_
  · exact rfl
  · dsimp only [rmm]; omega
  · dsimp only [rmm]; omega
  exact ⟨by rw [if_pos ⟨h_7, h_17, h_26, c_32⟩], rfl⟩
theorem hu_cm {I : aH} {a b : Nat} {x y : aO} (h : a ≠ b) : hu (hu I a x) b y = hu (hu I b y) a x := by
  funext α
  by_cases e : α = b
  · rw [e, hu_s, hu_n (Ne.symm h), hu_s]
  · rw [hu_n e]
    by_cases e2 : α = a
    · rw [e2, hu_s, hu_s]
    · rw [hu_n e2, hu_n e2, hu_n e]
/-- the item as it is made: off, nothing taken yet -/
def itN (S : St) (N : Nat) (b n ev sz od : Int32) (wd : Int64) : St := pb (pa (pa (pa (pa (pa (pa (pa (pa (pa S 32 0 (nI (N + 1))) 33 N 1) 34 N b) 35 N n) 36 N (S.1 0 0)) 37 N ev) 38 N sz) 39 N od) 40 N 0) 41 N wd
theorem itN_n {S : St} {N : Nat} {b n ev sz od : Int32} {wd : Int64} {f j : Nat} (hf : f ≠ 32) (h : j ≠ N) : (itN S N b n ev sz od wd).1 f j = S.1 f j := by
  simp only [itN, pb_1, pa_1]
  rw [if_neg (fun q => h q.2), if_neg (fun q => h q.2), if_neg (fun q => h q.2), if_neg (fun q => h q.2), if_neg (fun q => h q.2), if_neg (fun q => h q.2), if_neg (fun q => h q.2), if_neg (fun q => h q.2), if_neg (fun q => hf q.1)]
theorem itN_k {S : St} {N : Nat} {b n ev sz od : Int32} {wd : Int64} {f j : Nat} (hf : f < 32 ∨ 40 < f) : (itN S N b n ev sz od wd).1 f j = S.1 f j := by
  simp only [itN, pb_1, pa_1]
  rw [if_neg (by omega), if_neg (by omega), if_neg (by omega), if_neg (by omega), if_neg (by omega), if_neg (by omega), if_neg (by omega), if_neg (by omega), if_neg (by omega)]
theorem itN_f {S : St} {N : Nat} {b n ev sz od : Int32} {wd : Int64} {f : Nat} (hf : f < 32 ∨ 40 < f) : (itN S N b n ev sz od wd).1 f = S.1 f := by
  funext j
  exact itN_k hf
theorem itN_2 {S : St} {N : Nat} {b n ev sz od : Int32} {wd : Int64} {f j : Nat} (hf : f ≠ 41 ∨ j ≠ N) : (itN S N b n ev sz od wd).2 f j = S.2 f j := if_neg (fun q => hf.elim (fun z => z q.1) (fun z => z q.2))
theorem new_it {S : St} {J : aH} {N : Nat} {b n ev sz od : Int32} {wd : Int64} (hN : nn (S.1 32 0) = N) (h60 : N ≤ 60) (h42 : S.1 42 N = 0) (h43 : S.2 43 N = 0) : hu (hu (ovc S J) (kd 7 N 0) (.inr (5, [.int sz, .int od, .ref (kd 28 N 0)]))) (kd 6 N 0) (.inr (2, [.int (nI N), .ref (kd 5 (nn b) 0), .ref (kd 2 (nn n) 0), .int (S.1 0 0), .int ev, .long wd, .ref (kd 7 N 0), .int 0, .int 0, .long 0, .int 0])) = ovc (itN S N b n ev sz od wd) J := by
  have e32 : nn ((itN S N b n ev sz od wd).1 32 0) = N + 1 := by
    show nn (nI (N + 1)) = N + 1
    exact nnI (by omega)
  funext α
  by_cases e6 : α = kd 6 N 0
  · rw [e6, hu_s, at_it (by omega)]
    simp [itO, itN, pa_1, pa_2, pb_1, pb_2, h42, h43, gb]
  · rw [hu_n e6]
    by_cases e7 : α = kd 7 N 0
    · rw [e7, hu_s, at_qu (by omega)]
      simp [quO, itN, pa_1, pa_2, pb_1, pb_2]
    · rw [hu_n e7]
      unfold ovc
      cases ed : dc α with
      | none => rfl
      | some q =>
        obtain ⟨h1, h2⟩ := dc_of ed
        obtain ⟨k, i⟩ := q
        dsimp only at h1 h2 ⊢
        symm
        rcases kO_c h1 with rfl | rfl | rfl | rfl | rfl | rfl | rfl | rfl | rfl
        · exact oc1 rfl rfl rfl rfl
        · exact oc2 rfl rfl rfl
        · exact oc3 rfl rfl rfl rfl
        · exact oc4 rfl rfl rfl rfl rfl
        · exact oc5 rfl rfl rfl rfl rfl rfl rfl rfl rfl rfl rfl rfl rfl rfl rfl rfl
        · have hi : i ≠ N := fun z => e6 (by rw [h2, z])
          show (if i < nn ((itN S N b n ev sz od wd).1 32 0) then (some (.inr (2, itO (itN S N b n ev sz od wd) i)) : Option aO) else none) = (if i < nn (S.1 32 0) then (some (.inr (2, itO S i)) : Option aO) else none)
          rw [hN]
          refine up_if hi e32 ?_
          unfold itO
          rw [itN_n (f := 34) (by decide) hi, itN_n (f := 35) (by decide) hi, itN_n (f := 36) (by decide) hi, itN_n (f := 37) (by decide) hi, itN_n (f := 40) (by decide) hi, itN_n (f := 42) (by decide) hi, itN_n (f := 33) (by decide) hi, itN_2 (f := 41) (Or.inr hi), itN_2 (f := 43) (Or.inr hi)]
        · have hi : i ≠ N := fun z => e7 (by rw [h2, z])
          show (if i < nn ((itN S N b n ev sz od wd).1 32 0) then (some (.inr (5, quO (itN S N b n ev sz od wd) i)) : Option aO) else none) = (if i < nn (S.1 32 0) then (some (.inr (5, quO S i)) : Option aO) else none)
          rw [hN]
          refine up_if hi e32 ?_
          unfold quO
          rw [itN_n (f := 38) (by decide) hi, itN_n (f := 39) (by decide) hi]
        · exact oc8 rfl rfl rfl rfl rfl rfl rfl
        · exact oc11 rfl
theorem itI_new {S : St} {N a : Nat} {b n ev sz od : Int32} {wd : Int64} (hN : nn (S.1 32 0) = N) (h60 : N ≤ 60) : itI (itN S N b n ev sz od wd) a = itI S a ++ (if b = nI a then [N] else []) := by
  have e32 : nn ((itN S N b n ev sz od wd).1 32 0) = N + 1 := by
    show nn (nI (N + 1)) = N + 1
    exact nnI (by omega)
  unfold itI
  rw [e32, fl_s, hN]
  congr 1
  · refine fl_cg fun x hx => Bool.eq_iff_iff.mpr ?_
    rw [siB_iff, siB_iff]
    unfold siP
    rw [itN_n (f := 33) (by decide) (by omega), itN_n (f := 34) (by decide) (by omega)]
  · have h33 : (itN S N b n ev sz od wd).1 33 N = 1 := by simp [itN, pa_1, pb_1]
    have h34 : (itN S N b n ev sz od wd).1 34 N = b := by simp [itN, pa_1, pb_1]
    by_cases q : b = nI a
    · rw [if_pos q, if_pos (siB_iff.mpr ⟨by rw [h33]; decide, by rw [h34]; exact q⟩)]
    · rw [if_neg q, if_neg (fun z => q (by have := (siB_iff.mp z).2; rw [h34] at this; exact this))]
theorem RJ.newI {S : St} {Q : Nat → List Nat} {J J1 J2 J3 : aH} {N : Nat} {b n ev sz od : Int32} {wd : Int64} (R : RJ S Q J) (hN : nn (S.1 32 0) = N) (h60 : N < 60) (h20 : nn (S.1 15 0) ≤ 20) (hb : nn b < nn (S.1 15 0)) (eb : b = nI (nn b)) (h44 : S.1 44 N = 0) (F1 : Fr 28 N J J1) (L1 : LL J1 28 N []) (F2 : Fr 20 4 J1 J2) (L2 : LL J2 20 4 (rg 6 N ++ [kd 6 N 0])) (F3 : Fr 24 (nn b) J2 J3) (L3 : LL J3 24 (nn b) (itL S (nn b) ++ [kd 6 N 0])) : RJ (itN S N b n ev sz od wd) Q J3 := by
  have e32 : nn ((itN S N b n ev sz od wd).1 32 0) = N + 1 := by
    show nn (nI (N + 1)) = N + 1
    exact nnI (by omega)
  obtain ⟨E1, E2, E3, E4, E5, E6⟩ := ((R.2.fr (k := 28) rfl F1).fr (k := 20) rfl F2).fr (k := 24) rfl F3
  have hQN : Q N = [] := E2 N (by omega)
  refine ⟨(((R.1.upd (k := 28) rfl F1 L1).upd (k := 20) rfl F2 L2).upd (k := 24) rfl F3 L3).to (lsT3 ?_ ?_ ?_ ?_), ?_, ?_, E3, ?_, E5, E6⟩
  · show (if nn b < nn (S.1 15 0) then some (itL (itN S N b n ev sz od wd) (nn b)) else none) = _
    rw [if_pos hb]
    unfold itL
    rw [itI_new hN (by omega), if_pos eb, List.map_append]
    rfl
  · show some (rg 6 (nn ((itN S N b n ev sz od wd).1 32 0))) = _
    rw [e32, rg_s]
  · show (if N < nn ((itN S N b n ev sz od wd).1 32 0) then some (quL Q N) else none) = _
    rw [if_pos (by omega)]
    unfold quL
    rw [hQN]
    rfl
  · intro k i hk hne hne1 hne2
    rcases lk_c hk with rfl | rfl | rfl | rfl | rfl
    · exact ls20 (j := 4) (fun q => hne1 ⟨rfl, q⟩) (Or.inl rfl) (Or.inl rfl) (Or.inl rfl) (Or.inl rfl) (Or.inr rfl) (Or.inl rfl)
    · exact ls22
    · show (if i < nn (S.1 15 0) then some (itL (itN S N b n ev sz od wd) i) else none) = (if i < nn (S.1 15 0) then some (itL S i) else none)
      by_cases hi : i < nn (S.1 15 0)
      · rw [if_pos hi, if_pos hi]
        unfold itL
        rw [itI_new hN (by omega), if_neg (fun q => hne2 ⟨rfl, by rw [q]; exact (nnI (by omega)).symm⟩), List.append_nil]
      · rw [if_neg hi, if_neg hi]
    · exact ls26
    · show (if i < nn ((itN S N b n ev sz od wd).1 32 0) then some (quL Q i) else none) = (if i < nn (S.1 32 0) then some (quL Q i) else none)
      rw [hN]
      exact up_if (fun q => hne ⟨rfl, q⟩) e32 rfl
  · intro i hi
    rw [e32] at hi
    unfold EnQ
    rw [itN_k (f := 44) (by omega)]
    by_cases e : i = N
    · subst e
      rw [hQN, h44]
      exact ⟨List.nodup_nil, rfl, fun y hy => absurd hy (Nat.not_lt_zero _)⟩
    · exact E1 i (by omega)
  · intro i hi
    rw [e32] at hi
    exact E2 i (by omega)
  · intro m hm
    exact E4 m hm
theorem item_sw {S : St} {N : Nat} {b n ev sz od m : Int32} {wd : Int64} (h42 : S.1 42 N = 0) (h44 : S.1 44 N = 0) (hm : 0 ≤ m) : swS (pa (itN S N b n ev sz od wd) 26 (nn b) (S.1 21 (nn b))) N m = if m ≤ 0 then itS S N b n ev sz od m wd else sampleS (itS S N b n ev sz od m wd) N := by
  have e1 : pa (pa (itN S N b n ev sz od wd) 26 (nn b) (S.1 21 (nn b))) 40 N m = itS S N b n ev sz od m wd := by
    refine St_ext (fun f j => ?_) rfl
    show (pa (pa (itN S N b n ev sz od wd) 26 (nn b) (S.1 21 (nn b))) 40 N m).1 f j = (pa (pb (pa (pa (pa (pa (pa (pa (pa (pa (pa S 32 0 (nI (N + 1))) 33 N 1) 34 N b) 35 N n) 36 N (S.1 0 0)) 37 N ev) 38 N sz) 39 N od) 40 N m) 41 N wd) 26 (nn b) (S.1 21 (nn b))).1 f j
    simp only [itN, pa_1, pb_1]
    by_cases a : f = 40 ∧ j = N
    · rw [if_pos a, if_neg (by omega), if_pos a]
    · rw [if_neg a, if_neg a, if_neg a]
  unfold swS
  by_cases h0 : m = 0
  · rw [if_pos h0, if_pos (by rw [h0]; decide), e1]
    refine St_ext (fun f j => ?_) rfl
    have g42 : (itS S N b n ev sz od m wd).1 42 N = 0 := h42
    have g44 : (itS S N b n ev sz od m wd).1 44 N = 0 := h44
    rw [pa_1, pa_1]
    by_cases a : f = 44 ∧ j = N
    · rw [if_pos a, a.1, a.2, g44]
    · rw [if_neg a]
      by_cases a2 : f = 42 ∧ j = N
      · rw [if_pos a2, a2.1, a2.2, g42]
      · rw [if_neg a2]
  · have hm2 : ¬ m ≤ 0 := fun q => h0 (by
      have h1 := (fa_le _ _).mp hm
      have h2 := (fa_le _ _).mp q
      exact (fa_eq _ _).mpr (Int.le_antisymm h2 h1))
    rw [if_neg h0, if_neg hm2]
    have e40 : (pa (itN S N b n ev sz od wd) 26 (nn b) (S.1 21 (nn b))).1 40 N = 0 := by simp [itN, pa_1, pb_1]
    rw [if_pos e40, e1]
set_option maxRecDepth 100000 in
set_option maxHeartbeats 4000000 in
theorem k_item (l : Launch) {S : St} {Q : Nat → List Nat} {J : aH} {s b n ev sz od m : Int32} {wd : Int64} (c : CT S) (R : RJ S Q J) (K : KD S) (z : FZ S) (ow : OW S) (hod : od = 0 ∨ od = 1) (hqk : ∀ j, j < nn (S.1 32 0) → QK S j) : AM l yX8_item cX8_item 14 (some .int) (rmm 10 7 250 258) [.ref rO, .int s, .int b, .int n, .int ev, .int sz, .int od, .int m, .long wd] (ovc S J) (RES (op_item S s b n ev sz od m wd) J) := by
  have hln := (ct_nn c.2.2.2.2.1 (by decide)).1
  have hlen : (rg 6 (nn (S.1 32 0))).length ≤ 60 := by rw [rg_len]; exact hln
  have hz := z.2.2.2.1 _ (Nat.le_refl (nn (S.1 32 0)))
  refine AM_of RX8 (by decide) rfl [some (.ref rO), some (.int s), some (.int b), some (.int n), some (.int ev), some (.int sz), some (.int od), some (.int m), some (.long wd), none, none, none, none, none] rfl (Nat.le_of_ble_eq_true rfl) (fun Z X hNm => ?_)
  refine V_aload_n X dX8_item_0 rfl rfl ?_
  refine V_iload_n X dX8_item_1 rfl ?_
  apply V_callV1 X dX8_item_2 mk_X8_112 iv_X8_enter (k_enter l c R.ml)
  · exact at_root
  · exact rfl
  · exact Nat.le_of_ble_eq_true rfl
  · exact ⟨Nat.le_of_ble_eq_true rfl, Nat.le_of_ble_eq_true rfl⟩
  · exact ⟨by dsimp only [rmm]; omega, by dsimp only [rmm]; omega⟩
  rintro r I1 (⟨hl, rfl, rfl⟩ | ⟨hl, rfl, rfl⟩)
  · have hs := lack_s hl
    have hi := (ses_ix hs).2
    have R1 : RJ (entP S s) Q J := R.cg
    have m1 := R1.ml
    have c1 : CT (entP S s) := c.cg
    refine V_astore X dX8_item_5 (by decide) rfl rfl ?_
    refine V_aload X dX8_item_7 rfl rfl ?_
    refine V_ifnonnull X dX8_item_9 18 (by decide) ?_
    refine V_aload_n X dX8_item_18 rfl rfl ?_
    refine V_aload X dX8_item_19 rfl rfl ?_
    refine V_iload_n X dX8_item_21 rfl ?_
    apply V_callV2 X dX8_item_22 mk_X8_153 iv_X8_subscriptionOf (k_subOf l (S := entP S s) c.cg R1.ml ow.cg hs)
    · exact at_root
    · exact rfl
    · exact Nat.le_of_ble_eq_true rfl
    · exact ⟨Nat.le_of_ble_eq_true rfl, Nat.le_of_ble_eq_true rfl⟩
    · exact ⟨by dsimp only [rmm]; omega, by dsimp only [rmm]; omega⟩
    rintro r I1 ⟨rfl, ⟨hb, rfl⟩ | ⟨hb, rfl⟩⟩
    · have hj := (sub_ix (S := entP S s) hb.1.1).2
      refine V_astore X dX8_item_25 (by decide) rfl rfl ?_
      refine V_aload X dX8_item_27 rfl rfl ?_
      refine V_ifnonnull X dX8_item_29 39 (by decide) ?_
      refine V_aload_n X dX8_item_39 rfl rfl ?_
      refine V_iload_n X dX8_item_40 rfl ?_
      apply V_callV1 X dX8_item_41 mk_X8_79 iv_X8_variableAt (k_varAt l (S := entP S s) c1 m1 K.cg)
      · exact at_root
      · exact rfl
      · exact Nat.le_of_ble_eq_true rfl
      · exact ⟨Nat.le_of_ble_eq_true rfl, Nat.le_of_ble_eq_true rfl⟩
      · exact ⟨by dsimp only [rmm]; omega, by dsimp only [rmm]; omega⟩
      rintro r I1 ⟨rfl, ⟨hn, rfl⟩ | ⟨hn, rfl⟩⟩
      · have hnj := (n_ix (S := entP S s) hn.1).2
        refine V_astore X dX8_item_44 (by decide) rfl rfl ?_
        refine V_aload X dX8_item_46 rfl rfl ?_
        refine V_ifnonnull X dX8_item_48 58 (by decide) ?_
        refine V_iload X dX8_item_58 rfl ?_
        refine V_iload X dX8_item_60 rfl ?_
        refine V_iload X dX8_item_62 rfl ?_
        refine V_lload X dX8_item_64 rfl ?_
        refine V_callS4 X dX8_item_66 mk_X8_182 st_X1_mayHave (k_mayI l ev sz m wd) (Nat.le_of_ble_eq_true rfl) ⟨Nat.le_of_ble_eq_true rfl, Nat.le_of_ble_eq_true rfl⟩ ?_ ?_
        · exact ⟨by dsimp only [rmm]; omega, by dsimp only [rmm]; omega⟩
        rintro r I1 ⟨rfl, rfl⟩
        refine V_if_ne X dX8_item_69 79 (by decide) (fun c_69 => ?_) (fun c_69 => ?_)
        · have h_69 := bz_t c_69
          refine V_aload_n X dX8_item_79 rfl rfl ?_
          apply V_get X dX8_item_80 fk_X8_25
          · exact at_root
          · exact rfl
          apply V_callV0 X dX8_item_83 mk_X8_59 iv_Jx4a65c_size_8abf5 (k_szr l m1.2.2.2.2.1 c1.2.2.2.2.1 (by decide) rfl rfl)
          · exact ll_o (m1.2.2.2.2.1.ov rfl rfl)
          · exact rfl
          · exact Nat.le_of_ble_eq_true rfl
          · exact ⟨Nat.le_of_ble_eq_true rfl, Nat.le_of_ble_eq_true rfl⟩
          · exact ⟨by dsimp only [rmm]; omega, by dsimp only [rmm]; omega⟩
          rintro r I1 ⟨rfl, rfl⟩
          refine V_bipush (v := 60) X dX8_item_86 (by decide) ?_
          refine V_icmp_lt X dX8_item_88 98 (by decide) (fun c_88 => ?_) (fun c_88 => ?_)
          · have hq := ct_lt c1.2.2.2.2.1 (by decide) 60 rfl c_88
            have hq1 : (nn (S.1 32 0)) < 60 := hq.1
            refine V_new X dX8_item_98 nk_X8_183 (kd 6 (nn (S.1 32 0)) 0) ?_ ?_ ?_ ?_ ?_ ?_
            · exact no_at rfl (if_neg (Nat.lt_irrefl _))
            · exact kd_nk (by decide)
            · exact ro_k (by decide)
            · dsimp only [rmm]; omega
            · dsimp only [rmm]; omega
            refine V_dup X dX8_item_101 rfl ?_
            refine V_aload_n X dX8_item_102 rfl rfl ?_
            apply V_get X dX8_item_103 fk_X8_25
            · exact (hu_n (kd_nk (by decide))).trans at_root
            · exact rfl
            apply V_callV0 X dX8_item_106 mk_X8_59 iv_Jx4a65c_size_8abf5 (k_size l (x := nI (nn (S.1 32 0))) (((m1.2.2.2.2.1.ov (S := entP S s) rfl rfl).hu (by decide) (by decide) (by decide))) (by rw [rg_len]; rfl))
            · exact ll_o ((m1.2.2.2.2.1.ov (S := entP S s) rfl rfl).hu (by decide) (by decide) (by decide))
            · exact rfl
            · exact Nat.le_of_ble_eq_true rfl
            · exact ⟨Nat.le_of_ble_eq_true rfl, Nat.le_of_ble_eq_true rfl⟩
            · exact ⟨by dsimp only [rmm]; omega, by dsimp only [rmm]; omega⟩
            rintro r I1 ⟨rfl, rfl⟩
            refine V_aload X dX8_item_109 rfl rfl ?_
            refine V_aload X dX8_item_111 rfl rfl ?_
            refine V_aload_n X dX8_item_113 rfl rfl ?_
            apply V_get X dX8_item_114 fk_X8_35
            · exact (hu_n (kd_nk (by decide))).trans at_root
            · exact rfl
            refine V_iload X dX8_item_117 rfl ?_
            refine V_lload X dX8_item_119 rfl ?_
            refine V_new X dX8_item_121 nk_X8_187 (kd 7 (nn (S.1 32 0)) 0) ?_ ?_ ?_ ?_ ?_ ?_
            · exact (hu_n (kd_nk (by decide))).trans (no_at rfl (if_neg (Nat.lt_irrefl _)))
            · exact kd_nk (by decide)
            · exact ro_k (by decide)
            · dsimp only [rmm]; omega
            · dsimp only [rmm]; omega
            refine V_dup X dX8_item_124 rfl ?_
            refine V_iload X dX8_item_125 rfl ?_
            refine V_iload X dX8_item_127 rfl ?_
            refine V_callI2w X dX8_item_129 mk_X8_189 ii_X4_init (n_qu l hu_s ((hu_n (kd_nk (by decide))).trans ((hu_n (kd_nk (by decide))).trans ((ovc_k rfl).trans R.2.2.2.2.2.2))) (fun g => ⟨(hu_n (kd_nk (by decide))).trans ((hu_n (kd_nk (by decide))).trans ((ovc_k rfl).trans (R.1.new (k := 28) rfl (if_neg (Nat.lt_irrefl _)) g).1)), (hu_n (kd_nk (by decide))).trans ((hu_n (kd_nk (by decide))).trans ((ovc_k rfl).trans (R.1.new (k := 28) rfl (if_neg (Nat.lt_irrefl _)) g).2))⟩) hod) (Nat.le_of_ble_eq_true rfl) ⟨Nat.le_of_ble_eq_true rfl, Nat.le_of_ble_eq_true rfl⟩ ?_ ?_
            · exact ⟨by dsimp only [rmm]; omega, by dsimp only [rmm]; omega⟩
            rintro r I1 ⟨rfl, I2, hF0, hL0, rfl⟩
            refine V_callI7 X dX8_item_132 mk_X8_192 ii_X1_init (n_it l ((hu_n (kd_nk (by decide))).trans ((hF0.k (by decide) (by decide)).trans ((hu_n (kd_nk (by decide))).trans hu_s)))) (Nat.le_of_ble_eq_true rfl) ⟨Nat.le_of_ble_eq_true rfl, Nat.le_of_ble_eq_true rfl⟩ ?_ ?_
            · exact ⟨by dsimp only [rmm]; omega, by dsimp only [rmm]; omega⟩
            rintro r I1 ⟨rfl, rfl⟩
            have hFa := Fr.hu2 (o2 := .inr (5, [.int sz, .int od, .ref (kd 28 (nn (S.1 32 0)) 0)])) hF0 (by decide) (by decide)
            rw [hu_cm (kd_nk (by decide))] at hFa
            have hFb := Fr.hu2 (o2 := .inr (2, [.int (nI (nn (S.1 32 0))), .ref (kd 5 (nn b) 0), .ref (kd 2 (nn n) 0), .int ((entP S s).1 0 0), .int ev, .long wd, .ref (kd 7 (nn (S.1 32 0)) 0), .int 0, .int 0, .long 0, .int 0])) hFa (by decide) (by decide)
            have hnw : hu (hu (ovc (entP S s) J) (kd 7 (nn (S.1 32 0)) 0) (.inr (5, [.int sz, .int od, .ref (kd 28 (nn (S.1 32 0)) 0)]))) (kd 6 (nn (S.1 32 0)) 0) (.inr (2, [.int (nI (nn (S.1 32 0))), .ref (kd 5 (nn b) 0), .ref (kd 2 (nn n) 0), .int ((entP S s).1 0 0), .int ev, .long wd, .ref (kd 7 (nn (S.1 32 0)) 0), .int 0, .int 0, .long 0, .int 0])) = ovc (itN (entP S s) (nn (S.1 32 0)) b n ev sz od wd) J := new_it (S := entP S s) rfl hln hz.2.1 hz.2.2.2
            rw [hnw] at hFb
            obtain ⟨J1, e1, hL1, hF1⟩ := LL_ov hFb ((hL0.hu (by decide) (by decide) (by decide)).hu (by decide) (by decide) (by decide)) rfl rfl
            rw [e1]
            have hi1 : (nn (S.1 32 0)) < nn ((itN (entP S s) (nn (S.1 32 0)) b n ev sz od wd).1 32 0) := by
              show (nn (S.1 32 0)) < nn (nI ((nn (S.1 32 0)) + 1))
              rw [nnI (by omega)]
              omega
            have hm4 : LL J1 20 4 (rg 6 (nn (S.1 32 0))) := m1.2.2.2.2.1.fr hF1 (by decide) (by decide) (by decide) (Or.inl (by decide))
            refine V_astore X dX8_item_135 (by decide) rfl rfl ?_
            refine V_aload_n X dX8_item_137 rfl rfl ?_
            apply V_get X dX8_item_138 fk_X8_25
            · exact at_root
            · exact rfl
            refine V_aload X dX8_item_141 rfl rfl ?_
            apply V_callV1 X dX8_item_143 mk_X8_66 iv_Jx4a65c_add_9ea2d (c_add l (by decide) (hm4.ov (S := itN (entP S s) (nn (S.1 32 0)) b n ev sz od wd) rfl rfl) (by omega) (fun a ha => by obtain ⟨x, hx, rfl⟩ := rg_mem ha; exact eo_it (S := itN (entP S s) (nn (S.1 32 0)) b n ev sz od wd) (Nat.lt_trans hx hi1)) (eo_it (S := itN (entP S s) (nn (S.1 32 0)) b n ev sz od wd) hi1))
            · exact ll_o (hm4.ov (S := itN (entP S s) (nn (S.1 32 0)) b n ev sz od wd) rfl rfl)
            · exact rfl
            · exact Nat.le_of_ble_eq_true rfl
            · exact ⟨Nat.le_of_ble_eq_true rfl, Nat.le_of_ble_eq_true rfl⟩
            · exact ⟨by dsimp only [rmm]; omega, by dsimp only [rmm]; omega⟩
            rintro r I1 ⟨rfl, hL, hF⟩
            obtain ⟨J2, rfl, hL2, hF2⟩ := LL_ov hF hL rfl rfl
            have h24 := ((R1.its hj).fr hF1 (by decide) (by decide) (by decide) (Or.inl (by decide))).fr hF2 (by decide) (by decide) (by decide) (Or.inl (by decide))
            have hil := itI_len (S := entP S s) (b := nn b)
            have hil2 : (itL (entP S s) (nn b)).length ≤ 60 := by rw [itL_len]; exact Nat.le_trans hil hln
            refine V_pop X dX8_item_146 rfl ?_
            refine V_aload X dX8_item_147 rfl rfl ?_
            apply V_get X dX8_item_149 fk_X8_195
            · exact at_sub (hj)
            · exact rfl
            refine V_aload X dX8_item_152 rfl rfl ?_
            apply V_callV1 X dX8_item_154 mk_X8_66 iv_Jx4a65c_add_9ea2d (c_add l (by decide) (h24.ov (S := itN (entP S s) (nn (S.1 32 0)) b n ev sz od wd) rfl rfl) (by omega) (fun a ha => by obtain ⟨x, hx, rfl⟩ := List.mem_map.mp ha; exact eo_it (S := itN (entP S s) (nn (S.1 32 0)) b n ev sz od wd) (Nat.lt_trans (fl_mem.mp hx).1 hi1)) (eo_it (S := itN (entP S s) (nn (S.1 32 0)) b n ev sz od wd) hi1))
            · exact ll_o (h24.ov (S := itN (entP S s) (nn (S.1 32 0)) b n ev sz od wd) rfl rfl)
            · exact rfl
            · exact Nat.le_of_ble_eq_true rfl
            · exact ⟨Nat.le_of_ble_eq_true rfl, Nat.le_of_ble_eq_true rfl⟩
            · exact ⟨by dsimp only [rmm]; omega, by dsimp only [rmm]; omega⟩
            rintro r I1 ⟨rfl, hL, hF⟩
            obtain ⟨J3, rfl, hL3, hF3⟩ := LL_ov hF hL rfl rfl
            have R3 : RJ (itN (entP S s) (nn (S.1 32 0)) b n ev sz od wd) Q J3 := RJ.newI (S := entP S s) R1 rfl hq1 (ct_nn c1.2.2.2.1 (by decide)).1 hj (sub_ix (S := entP S s) hb.1.1).1 hz.2.2.1 hF1 hL1 hF2 hL2 hF3 hL3
            refine V_pop X dX8_item_157 rfl ?_
            refine V_aload X dX8_item_158 rfl rfl ?_
            refine V_aload X dX8_item_160 rfl rfl ?_
            apply V_get X dX8_item_162 fk_X8_161
            · exact at_sub (hj)
            · exact rfl
            refine P5_12 X dX8_item_165 fk_X8_164 (hj) ?_
            refine V_aload X dX8_item_168 rfl rfl ?_
            refine V_iload X dX8_item_170 rfl ?_
            refine V_aload_n X dX8_item_172 rfl rfl ?_
            apply V_get X dX8_item_173 fk_X8_35
            · exact at_root
            · exact rfl
            obtain ⟨zs, hz1, hz2, ez⟩ := rng_of (a := 1) (b := 8) rfl rfl (by decide) (by decide) h_69.2.1
            have h38n : (itN (entP S s) (nn (S.1 32 0)) b n ev sz od wd).1 38 (nn (S.1 32 0)) = sz := by simp [itN, pa_1, pb_1]
            have hqkn : QK (pa (itN (entP S s) (nn (S.1 32 0)) b n ev sz od wd) 26 (nn b) (S.1 21 (nn b))) (nn (S.1 32 0)) := by
              have e44 : (pa (itN (entP S s) (nn (S.1 32 0)) b n ev sz od wd) 26 (nn b) (S.1 21 (nn b))).1 44 (nn (S.1 32 0)) = 0 := hz.2.2.1
              have e38 : (pa (itN (entP S s) (nn (S.1 32 0)) b n ev sz od wd) 26 (nn b) (S.1 21 (nn b))).1 38 (nn (S.1 32 0)) = sz := h38n
              unfold QK
              rw [e44, e38, ez]
              exact ⟨⟨rfl, Nat.zero_le _⟩, ⟨by rw [nnI (by omega)], by rw [nnI (by omega)]; exact hz2⟩, Nat.zero_le _, by rw [nnI (by omega)]; exact hz1⟩
            have hq8n : ∀ j, j < nn ((pa (itN (entP S s) (nn (S.1 32 0)) b n ev sz od wd) 26 (nn b) (S.1 21 (nn b))).1 32 0) → sm ((pa (itN (entP S s) (nn (S.1 32 0)) b n ev sz od wd) 26 (nn b) (S.1 21 (nn b))).1 44 j) 8 := fun j hj2 => by
              show sm (S.1 44 j) 8
              by_cases e : j = (nn (S.1 32 0))
              · rw [e, hz.2.2.1]
                exact ⟨rfl, Nat.zero_le _⟩
              · refine (hqk j ?_).1
                have : j < nn (nI ((nn (S.1 32 0)) + 1)) := hj2
                rw [nnI (by omega)] at this
                omega
            have hvn : nn ((pa (itN (entP S s) (nn (S.1 32 0)) b n ev sz od wd) 26 (nn b) (S.1 21 (nn b))).1 35 (nn (S.1 32 0))) < nn ((pa (itN (entP S s) (nn (S.1 32 0)) b n ev sz od wd) 26 (nn b) (S.1 21 (nn b))).1 1 0) := by
              have e35 : (pa (itN (entP S s) (nn (S.1 32 0)) b n ev sz od wd) 26 (nn b) (S.1 21 (nn b))).1 35 (nn (S.1 32 0)) = n := by simp [itN, pa_1, pb_1]
              rw [e35]
              exact hnj
            apply V_callV2 X dX8_item_176 mk_X8_196 iv_X1_switchTo (k_switch l (S := pa (itN (entP S s) (nn (S.1 32 0)) b n ev sz od wd) 26 (nn b) (S.1 21 (nn b))) hi1 R3.cg hq8n hqkn hvn rfl)
            · exact at_it (hi1)
            · exact rfl
            · exact Nat.le_of_ble_eq_true rfl
            · exact ⟨Nat.le_of_ble_eq_true rfl, Nat.le_of_ble_eq_true rfl⟩
            · exact ⟨by dsimp only [rmm]; omega, by dsimp only [rmm]; omega⟩
            rintro r I1 ⟨rfl, Q4, J4, rfl, R4, F4⟩
            refine V_aload X dX8_item_179 rfl rfl ?_
            apply V_get X dX8_item_181 fk_X8_199
            · exact at_it (by rw [swS_k (by decide)]; exact hi1)
            · exact rfl
            refine V_iret X dX8_item_184 ?_ ?_ ?_ ?_
            · exact rfl
            · dsimp only [rmm]; omega
            · dsimp only [rmm]; omega
            refine RES.of (q := op_item S s b n ev sz od m wd) ?_ R4 ((((hF1.fj (k := 28) rfl).tr (hF2.fj (k := 20) rfl)).tr (hF3.fj (k := 24) rfl)).tr F4)
            rw [op_item, if_pos (lkB_0 hl hb), ent_0 hl, if_pos hn, if_pos h_69, if_neg hq.2.2]
            exact Prod.ext (item_sw (S := entP S s) hz.2.1 hz.2.2.1 h_69.2.2.1.1).symm rfl
          have hq := ct_ge c1.2.2.2.2.1 (by decide) 60 rfl c_88
          refine V_aload_n X dX8_item_91 rfl rfl ?_
          refine V_bipush (v := (-8)) X dX8_item_92 (by decide) ?_
          apply V_callV1 X dX8_item_94 mk_X8_55 iv_X8_refuse (k_refuse l (S := entP S s) (by unfold vp_in; decide) (by decide))
          · exact at_root
          · exact rfl
          · exact Nat.le_of_ble_eq_true rfl
          · exact ⟨Nat.le_of_ble_eq_true rfl, Nat.le_of_ble_eq_true rfl⟩
          · exact ⟨by dsimp only [rmm]; omega, by dsimp only [rmm]; omega⟩
          rintro r I1 ⟨rfl, rfl⟩
          refine V_iret X dX8_item_97 ?_ ?_ ?_ ?_
          · exact rfl
          · dsimp only [rmm]; omega
          · dsimp only [rmm]; omega
          exact RES.of (q := op_item S s b n ev sz od m wd) (by rw [op_item, if_pos (lkB_0 hl hb), ent_0 hl, if_pos hn, if_pos h_69, if_pos hq] <;> rfl) R.cg FJ.rf
        have h_69 := bz_f c_69
        refine V_aload_n X dX8_item_72 rfl rfl ?_
        refine V_bipush (v := (-7)) X dX8_item_73 (by decide) ?_
        apply V_callV1 X dX8_item_75 mk_X8_55 iv_X8_refuse (k_refuse l (S := entP S s) (by unfold vp_in; decide) (by decide))
        · exact at_root
        · exact rfl
        · exact Nat.le_of_ble_eq_true rfl
        · exact ⟨Nat.le_of_ble_eq_true rfl, Nat.le_of_ble_eq_true rfl⟩
        · exact ⟨by dsimp only [rmm]; omega, by dsimp only [rmm]; omega⟩
        rintro r I1 ⟨rfl, rfl⟩
        refine V_iret X dX8_item_78 ?_ ?_ ?_ ?_
        · exact rfl
        · dsimp only [rmm]; omega
        · dsimp only [rmm]; omega
        exact RES.of (q := op_item S s b n ev sz od m wd) (by rw [op_item, if_pos (lkB_0 hl hb), ent_0 hl, if_pos hn, if_neg h_69] <;> rfl) R.cg FJ.rf
      refine V_astore X dX8_item_44 (by decide) rfl rfl ?_
      refine V_aload X dX8_item_46 rfl rfl ?_
      refine V_ifnonnullN X dX8_item_48 ?_
      refine V_aload_n X dX8_item_51 rfl rfl ?_
      refine V_bipush (v := (-4)) X dX8_item_52 (by decide) ?_
      apply V_callV1 X dX8_item_54 mk_X8_55 iv_X8_refuse (k_refuse l (S := entP S s) (by unfold vp_in; decide) (by decide))
      · exact at_root
      · exact rfl
      · exact Nat.le_of_ble_eq_true rfl
      · exact ⟨Nat.le_of_ble_eq_true rfl, Nat.le_of_ble_eq_true rfl⟩
      · exact ⟨by dsimp only [rmm]; omega, by dsimp only [rmm]; omega⟩
      rintro r I1 ⟨rfl, rfl⟩
      refine V_iret X dX8_item_57 ?_ ?_ ?_ ?_
      · exact rfl
      · dsimp only [rmm]; omega
      · dsimp only [rmm]; omega
      exact RES.of (q := op_item S s b n ev sz od m wd) (by rw [op_item, if_pos (lkB_0 hl hb), ent_0 hl, if_neg hn] <;> rfl) R.cg FJ.rf
    refine V_astore X dX8_item_25 (by decide) rfl rfl ?_
    refine V_aload X dX8_item_27 rfl rfl ?_
    refine V_ifnonnullN X dX8_item_29 ?_
    refine V_aload_n X dX8_item_32 rfl rfl ?_
    refine V_bipush (v := (-5)) X dX8_item_33 (by decide) ?_
    apply V_callV1 X dX8_item_35 mk_X8_55 iv_X8_refuse (k_refuse l (S := entP S s) (by unfold vp_in; decide) (by decide))
    · exact at_root
    · exact rfl
    · exact Nat.le_of_ble_eq_true rfl
    · exact ⟨Nat.le_of_ble_eq_true rfl, Nat.le_of_ble_eq_true rfl⟩
    · exact ⟨by dsimp only [rmm]; omega, by dsimp only [rmm]; omega⟩
    rintro r I1 ⟨rfl, rfl⟩
    refine V_iret X dX8_item_38 ?_ ?_ ?_ ?_
    · exact rfl
    · dsimp only [rmm]; omega
    · dsimp only [rmm]; omega
    exact RES.of (q := op_item S s b n ev sz od m wd) (by rw [op_item, if_neg (lkB_5 hl hb).2, (lkB_5 hl hb).1, ent_0 hl] <;> rfl) R.cg FJ.rf
  refine V_astore X dX8_item_5 (by decide) rfl rfl ?_
  refine V_aload X dX8_item_7 rfl rfl ?_
  refine V_ifnonnullN X dX8_item_9 ?_
  refine V_aload_n X dX8_item_12 rfl rfl ?_
  refine V_iload_n X dX8_item_13 rfl ?_
  apply V_callV1 X dX8_item_14 mk_X8_105 iv_X8_refuseSession (k_refS l c R.ml (lack_no hl))
  · exact at_root
  · exact rfl
  · exact Nat.le_of_ble_eq_true rfl
  · exact ⟨Nat.le_of_ble_eq_true rfl, Nat.le_of_ble_eq_true rfl⟩
  · exact ⟨by dsimp only [rmm]; omega, by dsimp only [rmm]; omega⟩
  rintro r I1 ⟨rfl, rfl⟩
  refine V_iret X dX8_item_17 ?_ ?_ ?_ ?_
  · exact rfl
  · dsimp only [rmm]; omega
  · dsimp only [rmm]; omega
  exact RES.of (q := op_item S s b n ev sz od m wd) (by rw [op_item, if_neg (lkB_n hl).2, (lkB_n hl).1, ent_1 hl] <;> rfl) R.cg FJ.rf
