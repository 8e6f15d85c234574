theorem lsT2 {T T' : Nat → Nat → Option (List Nat)} {k0 i0 k1 i1 : Nat} {L0 L1 : List Nat} (h1 : T' k1 i1 = some L1) (h0 : T' k0 i0 = some L0) (h : ∀ k i, lk k = true → ¬ (k = k0 ∧ i = i0) → ¬ (k = k1 ∧ i = i1) → T' k i = T k i) : ∀ k i, lk k = true → T' k i = upT (upT T k0 i0 L0) k1 i1 L1 k i := fun k i hk => by
  unfold upT
  by_cases e : k = k1 ∧ i = i1
  · rw [if_pos e, e.1, e.2]
    exact h1
  · rw [if_neg e]
    by_cases e' : k = k0 ∧ i = i0
    · rw [if_pos e', e'.1, e'.2]
      exact h0
    · rw [if_neg e']
      exact h k i hk e' e
theorem lsT3 {T T' : Nat → Nat → Option (List Nat)} {k0 i0 k1 i1 k2 i2 : Nat} {L0 L1 L2 : List Nat} (h2 : T' k2 i2 = some L2) (h1 : T' k1 i1 = some L1) (h0 : T' k0 i0 = some L0) (h : ∀ k i, lk k = true → ¬ (k = k0 ∧ i = i0) → ¬ (k = k1 ∧ i = i1) → ¬ (k = k2 ∧ i = i2) → T' k i = T k i) : ∀ k i, lk k = true → T' k i = upT (upT (upT T k0 i0 L0) k1 i1 L1) k2 i2 L2 k i := fun k i hk => by
  show T' k i = (if k = k2 ∧ i = i2 then some L2 else upT (upT T k0 i0 L0) k1 i1 L1 k i)
  by_cases e : k = k2 ∧ i = i2
  · rw [if_pos e, e.1, e.2]
    exact h2
  · rw [if_neg e]
    unfold upT
    by_cases e1 : k = k1 ∧ i = i1
    · rw [if_pos e1, e1.1, e1.2]
      exact h1
    · rw [if_neg e1]
      by_cases e' : k = k0 ∧ i = i0
      · rw [if_pos e', e'.1, e'.2]
        exact h0
      · rw [if_neg e']
        exact h k i hk e' e1 e
theorem up_if {n m i : Nat} {α : Type} {x y : α} (h : i ≠ n) (e : m = n + 1) (exy : x = y) : (if i < m then some x else none) = (if i < n then some y else none) := by
  rw [e, exy]
  by_cases q : i < n
  · rw [if_pos q, if_pos (by omega)]
  · rw [if_neg q, if_neg (by omega)]
set_option maxRecDepth 100000 in
set_option maxHeartbeats 4000000 in
theorem n_ses (l : Launch) {I : aH} {i : Nat} {a t n : Int32} (h : I (kd 4 i 0) = some (.inr (7, [.int 0, .int 0, .null, .int 0, .int 0, .int 0]))) (hz : I zed = some (.inl (3, aR 0 (fun _ => none)))) (hf : FrL I 22 i) : AM l yX6_init cX6_init 4 none (rmm 4 1 3 80) [.ref (kd 4 i 0), .int a, .int t, .int n] I (fun r I' => r = none ∧ ∃ I2, Fr 22 i I I2 ∧ LL I2 22 i [] ∧ I' = hu I2 (kd 4 i 0) (.inr (7, [.int a, .int t, .ref (kd 22 i 0), .int 0, .int (n + t), .int 0]))) := by
  refine AM_of RX6 (by decide) rfl [some (.ref (kd 4 i 0)), some (.int a), some (.int t), some (.int n)] rfl (Nat.le_of_ble_eq_true rfl) (fun Z X hNm => ?_)
  refine V_aload_n X dX6_init_0 rfl rfl ?_
  refine V_objInit X dX6_init_1 ol_X6_1 ob_i ob_c (Nat.le_of_ble_eq_true rfl) (Nat.le_of_ble_eq_true rfl) ?_
  refine V_aload_n X dX6_init_4 rfl rfl ?_
  refine V_new X dX6_init_5 nk_X6_7 (kd 22 i 0) ?_ ?_ ?_ ?_ ?_ ?_
  · exact (hf 0).1
  · exact kd_nk (by decide)
  · exact ro_k (by decide)
  · dsimp only [rmm]; omega
  · dsimp only [rmm]; omega
  refine V_dup X dX6_init_8 rfl ?_
  refine V_callI0 X dX6_init_9 mk_X6_9 ii_Jx4a65c_init_da8c8 (c_lInit l (by decide) hu_s ((hu_n (kd_nk (by decide))).trans hz) (fun g => (hu_n (kd_nk (by decide))).trans (hf g).2)) (Nat.le_of_ble_eq_true rfl) ⟨Nat.le_of_ble_eq_true rfl, Nat.le_of_ble_eq_true rfl⟩ ?_ ?_
  · exact ⟨by dsimp only [rmm]; omega, by dsimp only [rmm]; omega⟩
  rintro r I1 ⟨rfl, hL, hF⟩
  have h0 : I1 (kd 4 i 0) = some (.inr (7, [.int 0, .int 0, .null, .int 0, .int 0, .int 0])) := (hF.k (by decide) (by decide)).trans ((hu_n (kd_nk (by decide))).trans h)
  apply V_putF X hNm dX6_init_12 fp_X6_10
  · first | assumption | exact hu_s | exact (hu_n (by first | exact kd_nk (by decide) | exact kd_ni (by omega) | exact kd_ng (by omega) | assumption | exact Ne.symm (by assumption))).trans (by first | assumption | exact hu_s | exact (hu_n (by first | exact kd_nk (by decide) | exact kd_ni (by omega) | exact kd_ng (by omega) | assumption | exact Ne.symm (by assumption))).trans (by first | assumption | exact hu_s | exact (hu_n (by first | exact kd_nk (by decide) | exact kd_ni (by omega) | exact kd_ng (by omega) | assumption | exact Ne.symm (by assumption))).trans (by first | assumption | exact hu_s)))
  · exact ro_k (by decide)
  · exact Nat.le_of_ble_eq_true rfl
  · exact rfl
  · exact rfl
  refine V_aload_n X dX6_init_15 rfl rfl ?_
  refine V_iconst (v := 0) X dX6_init_16 (by decide) ?_
  apply V_put X dX6_init_17 fk_X6_16
  · first | assumption | exact hu_s | exact (hu_n (by first | exact kd_nk (by decide) | exact kd_ni (by omega) | exact kd_ng (by omega) | assumption | exact Ne.symm (by assumption))).trans (by first | assumption | exact hu_s | exact (hu_n (by first | exact kd_nk (by decide) | exact kd_ni (by omega) | exact kd_ng (by omega) | assumption | exact Ne.symm (by assumption))).trans (by first | assumption | exact hu_s | exact (hu_n (by first | exact kd_nk (by decide) | exact kd_ni (by omega) | exact kd_ng (by omega) | assumption | exact Ne.symm (by assumption))).trans (by first | assumption | exact hu_s)))
  · exact ro_k (by decide)
  · exact Nat.le_of_ble_eq_true rfl
  · exact rfl
  · exact rfl
  refine V_aload_n X dX6_init_20 rfl rfl ?_
  refine V_iconst (v := 0) X dX6_init_21 (by decide) ?_
  apply V_put X dX6_init_22 fk_X6_20
  · first | assumption | exact hu_s | exact (hu_n (by first | exact kd_nk (by decide) | exact kd_ni (by omega) | exact kd_ng (by omega) | assumption | exact Ne.symm (by assumption))).trans (by first | assumption | exact hu_s | exact (hu_n (by first | exact kd_nk (by decide) | exact kd_ni (by omega) | exact kd_ng (by omega) | assumption | exact Ne.symm (by assumption))).trans (by first | assumption | exact hu_s | exact (hu_n (by first | exact kd_nk (by decide) | exact kd_ni (by omega) | exact kd_ng (by omega) | assumption | exact Ne.symm (by assumption))).trans (by first | assumption | exact hu_s)))
  · exact ro_k (by decide)
  · exact Nat.le_of_ble_eq_true rfl
  · exact rfl
  · exact rfl
  refine V_aload_n X dX6_init_25 rfl rfl ?_
  refine V_iload_n X dX6_init_26 rfl ?_
  apply V_putF X hNm dX6_init_27 fp_X6_23
  · first | assumption | exact hu_s | exact (hu_n (by first | exact kd_nk (by decide) | exact kd_ni (by omega) | exact kd_ng (by omega) | assumption | exact Ne.symm (by assumption))).trans (by first | assumption | exact hu_s | exact (hu_n (by first | exact kd_nk (by decide) | exact kd_ni (by omega) | exact kd_ng (by omega) | assumption | exact Ne.symm (by assumption))).trans (by first | assumption | exact hu_s | exact (hu_n (by first | exact kd_nk (by decide) | exact kd_ni (by omega) | exact kd_ng (by omega) | assumption | exact Ne.symm (by assumption))).trans (by first | assumption | exact hu_s)))
  · exact ro_k (by decide)
  · exact Nat.le_of_ble_eq_true rfl
  · exact rfl
  · exact rfl
  refine V_aload_n X dX6_init_30 rfl rfl ?_
  refine V_iload_n X dX6_init_31 rfl ?_
  apply V_putF X hNm dX6_init_32 fp_X6_26
  · first | assumption | exact hu_s | exact (hu_n (by first | exact kd_nk (by decide) | exact kd_ni (by omega) | exact kd_ng (by omega) | assumption | exact Ne.symm (by assumption))).trans (by first | assumption | exact hu_s | exact (hu_n (by first | exact kd_nk (by decide) | exact kd_ni (by omega) | exact kd_ng (by omega) | assumption | exact Ne.symm (by assumption))).trans (by first | assumption | exact hu_s | exact (hu_n (by first | exact kd_nk (by decide) | exact kd_ni (by omega) | exact kd_ng (by omega) | assumption | exact Ne.symm (by assumption))).trans (by first | assumption | exact hu_s)))
  · exact ro_k (by decide)
  · exact Nat.le_of_ble_eq_true rfl
  · exact rfl
  · exact rfl
  refine V_aload_n X dX6_init_35 rfl rfl ?_
  refine V_iload_n X dX6_init_36 rfl ?_
  refine V_iload_n X dX6_init_37 rfl ?_
  refine V_iadd X dX6_init_38 ?_
  apply V_put X dX6_init_39 fk_X6_29
  · first | assumption | exact hu_s | exact (hu_n (by first | exact kd_nk (by decide) | exact kd_ni (by omega) | exact kd_ng (by omega) | assumption | exact Ne.symm (by assumption))).trans (by first | assumption | exact hu_s | exact (hu_n (by first | exact kd_nk (by decide) | exact kd_ni (by omega) | exact kd_ng (by omega) | assumption | exact Ne.symm (by assumption))).trans (by first | assumption | exact hu_s | exact (hu_n (by first | exact kd_nk (by decide) | exact kd_ni (by omega) | exact kd_ng (by omega) | assumption | exact Ne.symm (by assumption))).trans (by first | assumption | exact hu_s)))
  · exact ro_k (by decide)
  · exact Nat.le_of_ble_eq_true rfl
  · exact rfl
  · exact rfl
  refine V_vret X dX6_init_42 ?_ ?_ ?_
  · dsimp only [rmm]; omega
  · dsimp only [rmm]; omega
  exact ⟨rfl, I1, Fr.tr Fr.o hF, hL, by rw [hu_hu, hu_hu, hu_hu, hu_hu, hu_hu]; rfl⟩
theorem new_ses {S : St} {J : aH} {t : Int32} (c : ct S 8 12) (hz : S.1 12 (nn (S.1 8 0)) = 0) : hu (ovc S J) (kd 4 (nn (S.1 8 0)) 0) (.inr (7, [.int (S.1 8 0), .int t, .ref (kd 22 (nn (S.1 8 0)) 0), .int 0, .int (S.1 0 0 + t), .int 0])) = ovc (pa (pa (pa (pa S 9 (nn (S.1 8 0)) t) 10 (nn (S.1 8 0)) (S.1 0 0 + t)) 11 (nn (S.1 8 0)) 0) 8 0 (S.1 8 0 + 1)) J := by
  have e1 : nn ((pa (pa (pa (pa S 9 (nn (S.1 8 0)) t) 10 (nn (S.1 8 0)) (S.1 0 0 + t)) 11 (nn (S.1 8 0)) 0) 8 0 (S.1 8 0 + 1)).1 8 0) = nn (S.1 8 0) + 1 := (ct_inc c (by decide)).1
  have e0 : S.1 8 0 = nI (nn (S.1 8 0)) := (ct_nn c (by decide)).2
  refine hu_ovc rfl ?_ ?_
  · have : ob (pa (pa (pa (pa S 9 (nn (S.1 8 0)) t) 10 (nn (S.1 8 0)) (S.1 0 0 + t)) 11 (nn (S.1 8 0)) 0) 8 0 (S.1 8 0 + 1)) 4 (nn (S.1 8 0)) = some (.inr (7, sesO (pa (pa (pa (pa S 9 (nn (S.1 8 0)) t) 10 (nn (S.1 8 0)) (S.1 0 0 + t)) 11 (nn (S.1 8 0)) 0) 8 0 (S.1 8 0 + 1)) (nn (S.1 8 0)))) := if_pos (by omega)
    rw [this]
    simp [sesO, pa_1, pa_2, pb_1, pb_2, hz, ← e0]
  · intro k' i' hk hne
    rcases kO_c hk with rfl | rfl | rfl | rfl | rfl | rfl | rfl | rfl | rfl
    · exact oc1 rfl rfl rfl rfl
    · exact oc2 rfl rfl rfl
    · exact oc3 rfl rfl rfl rfl
    · have hi : i' ≠ nn (S.1 8 0) := fun z => hne ⟨rfl, z⟩
      have e : sesO (pa (pa (pa (pa S 9 (nn (S.1 8 0)) t) 10 (nn (S.1 8 0)) (S.1 0 0 + t)) 11 (nn (S.1 8 0)) 0) 8 0 (S.1 8 0 + 1)) i' = sesO S i' := by simp [sesO, pa_1, pa_2, pb_1, pb_2, hi]
      show (if i' < nn ((pa (pa (pa (pa S 9 (nn (S.1 8 0)) t) 10 (nn (S.1 8 0)) (S.1 0 0 + t)) 11 (nn (S.1 8 0)) 0) 8 0 (S.1 8 0 + 1)).1 8 0) then (some (.inr (7, sesO (pa (pa (pa (pa S 9 (nn (S.1 8 0)) t) 10 (nn (S.1 8 0)) (S.1 0 0 + t)) 11 (nn (S.1 8 0)) 0) 8 0 (S.1 8 0 + 1)) i')) : Option aO) else none) = (if i' < nn (S.1 8 0) then (some (.inr (7, sesO S i')) : Option aO) else none)
      rw [e, e1]
      by_cases q : i' < nn (S.1 8 0)
      · rw [if_pos q, if_pos (by omega)]
      · rw [if_neg q, if_neg (by omega)]
    · exact oc5 rfl rfl rfl rfl rfl rfl rfl rfl rfl rfl rfl rfl rfl rfl rfl rfl
    · exact oc6 rfl rfl rfl rfl rfl rfl rfl rfl rfl rfl
    · exact oc7 rfl rfl rfl
    · exact oc8 rfl rfl rfl rfl rfl rfl rfl
    · exact oc11 rfl
set_option maxRecDepth 100000 in
set_option maxHeartbeats 4000000 in
theorem k_session (l : Launch) {S : St} {Q : Nat → List Nat} {J : aH} {t : Int32} (c : CT S) (R : RJ S Q J) (z : FZ S) : AM l yX8_session cX8_session 2 (some .int) (rmm 7 4 60 191) [.ref rO, .int t] (ovc S J) (RES (op_session S t) J) := by
  have m := R.ml
  have hl := (ct_nn c.2.2.1 (by decide)).1
  have hlen : (rg 4 (nn (S.1 8 0))).length ≤ 12 := by rw [rg_len]; exact hl
  have ei := ct_inc c.2.2.1 (by decide)
  refine AM_of RX8 (by decide) rfl [some (.ref rO), some (.int t)] rfl (Nat.le_of_ble_eq_true rfl) (fun Z X hNm => ?_)
  refine V_iload_n X dX8_session_0 rfl ?_
  refine V_iconst (v := 1) X dX8_session_1 (by decide) ?_
  refine V_sipush (v := 1000) X dX8_session_2 (by decide) ?_
  refine V_callS3 X dX8_session_5 mk_X8_51 st_X8_isWithin (k_within l t 1 1000) (Nat.le_of_ble_eq_true rfl) ⟨Nat.le_of_ble_eq_true rfl, Nat.le_of_ble_eq_true rfl⟩ ?_ ?_
  · exact ⟨by dsimp only [rmm]; omega, by dsimp only [rmm]; omega⟩
  rintro r I1 ⟨rfl, rfl⟩
  refine V_if_ne X dX8_session_8 18 (by decide) (fun c_8 => ?_) (fun c_8 => ?_)
  · have h_8 := bz_t c_8
    refine V_aload_n X dX8_session_18 rfl rfl ?_
    apply V_get X dX8_session_19 fk_X8_19
    · exact at_root
    · exact rfl
    apply V_callV0 X dX8_session_22 mk_X8_59 iv_Jx4a65c_size_8abf5 (k_szr l m.2.2.1 c.2.2.1 (by decide) rfl rfl)
    · exact ll_o (m.2.2.1.ov rfl rfl)
    · exact rfl
    · exact Nat.le_of_ble_eq_true rfl
    · exact ⟨Nat.le_of_ble_eq_true rfl, Nat.le_of_ble_eq_true rfl⟩
    · exact ⟨by dsimp only [rmm]; omega, by dsimp only [rmm]; omega⟩
    rintro r I1 ⟨rfl, rfl⟩
    refine V_bipush (v := 12) X dX8_session_25 (by decide) ?_
    refine V_icmp_lt X dX8_session_27 37 (by decide) (fun c_27 => ?_) (fun c_27 => ?_)
    · have hq := ct_lt c.2.2.1 (by decide) 12 rfl c_27
      refine V_aload_n X dX8_session_37 rfl rfl ?_
      apply V_get X dX8_session_38 fk_X8_19
      · exact at_root
      · exact rfl
      refine V_new X dX8_session_41 nk_X8_95 (kd 4 (nn (S.1 8 0)) 0) ?_ ?_ ?_ ?_ ?_ ?_
      · exact no_at rfl (if_neg (Nat.lt_irrefl _))
      · exact kd_nk (by decide)
      · exact ro_k (by decide)
      · dsimp only [rmm]; omega
      · dsimp only [rmm]; omega
      refine V_dup X dX8_session_44 rfl ?_
      refine V_aload_n X dX8_session_45 rfl rfl ?_
      apply V_get X dX8_session_46 fk_X8_19
      · exact (hu_n (kd_nk (by decide))).trans at_root
      · exact rfl
      apply V_callV0 X dX8_session_49 mk_X8_59 iv_Jx4a65c_size_8abf5 (k_size l (x := S.1 8 0) (((m.2.2.1.ov (S := S) rfl rfl).hu (by decide) (by decide) (by decide))) (by rw [rg_len]; exact hq.2.1.symm))
      · exact ll_o ((m.2.2.1.ov (S := S) rfl rfl).hu (by decide) (by decide) (by decide))
      · exact rfl
      · exact Nat.le_of_ble_eq_true rfl
      · exact ⟨Nat.le_of_ble_eq_true rfl, Nat.le_of_ble_eq_true rfl⟩
      · exact ⟨by dsimp only [rmm]; omega, by dsimp only [rmm]; omega⟩
      rintro r I1 ⟨rfl, rfl⟩
      refine V_iload_n X dX8_session_52 rfl ?_
      refine V_aload_n X dX8_session_53 rfl rfl ?_
      apply V_get X dX8_session_54 fk_X8_35
      · exact (hu_n (kd_nk (by decide))).trans at_root
      · exact rfl
      refine V_callI3 X dX8_session_57 mk_X8_97 ii_X6_init (n_ses l hu_s ((hu_n (kd_nk (by decide))).trans ((ovc_k rfl).trans R.2.2.2.2.2.2)) (fun g => ⟨(hu_n (kd_nk (by decide))).trans ((ovc_k rfl).trans (R.1.new (k := 22) rfl (if_neg (Nat.lt_irrefl _)) g).1), (hu_n (kd_nk (by decide))).trans ((ovc_k rfl).trans (R.1.new (k := 22) rfl (if_neg (Nat.lt_irrefl _)) g).2)⟩)) (Nat.le_of_ble_eq_true rfl) ⟨Nat.le_of_ble_eq_true rfl, Nat.le_of_ble_eq_true rfl⟩ ?_ ?_
      · exact ⟨by dsimp only [rmm]; omega, by dsimp only [rmm]; omega⟩
      rintro r I1 ⟨rfl, I2, hF0, hL0, rfl⟩
      have hFa := Fr.hu2 (o2 := .inr (7, [.int (S.1 8 0), .int t, .ref (kd 22 (nn (S.1 8 0)) 0), .int 0, .int (S.1 0 0 + t), .int 0])) hF0 (by decide) (by decide)
      rw [new_ses c.2.2.1 (z.2.1 _ (Nat.le_refl _)).1] at hFa
      obtain ⟨J0, e0, hLa, hFb⟩ := LL_ov hFa (hL0.hu (by decide) (by decide) (by decide)) rfl rfl
      rw [e0]
      have hm := m.2.2.1.fr hFb (by decide) (by decide) (by decide) (Or.inl (by decide))
      apply V_callV1 X dX8_session_60 mk_X8_66 iv_Jx4a65c_add_9ea2d (c_add l (by decide) (hm.ov (S := pa (pa (pa (pa S 9 (nn (S.1 8 0)) t) 10 (nn (S.1 8 0)) (S.1 0 0 + t)) 11 (nn (S.1 8 0)) 0) 8 0 (S.1 8 0 + 1)) rfl rfl) (by omega) (fun a ha => by obtain ⟨i, hi, rfl⟩ := rg_mem ha; exact eo_ses (S := pa (pa (pa (pa S 9 (nn (S.1 8 0)) t) 10 (nn (S.1 8 0)) (S.1 0 0 + t)) 11 (nn (S.1 8 0)) 0) 8 0 (S.1 8 0 + 1)) (Nat.lt_of_lt_of_eq (Nat.lt_succ_of_lt hi) ei.1.symm)) (eo_ses (S := pa (pa (pa (pa S 9 (nn (S.1 8 0)) t) 10 (nn (S.1 8 0)) (S.1 0 0 + t)) 11 (nn (S.1 8 0)) 0) 8 0 (S.1 8 0 + 1)) (Nat.lt_of_lt_of_eq (Nat.lt_succ_self _) ei.1.symm)))
      · exact ll_o (hm.ov (S := pa (pa (pa (pa S 9 (nn (S.1 8 0)) t) 10 (nn (S.1 8 0)) (S.1 0 0 + t)) 11 (nn (S.1 8 0)) 0) 8 0 (S.1 8 0 + 1)) rfl rfl)
      · exact rfl
      · exact Nat.le_of_ble_eq_true rfl
      · exact ⟨Nat.le_of_ble_eq_true rfl, Nat.le_of_ble_eq_true rfl⟩
      · exact ⟨by dsimp only [rmm]; omega, by dsimp only [rmm]; omega⟩
      rintro r I1 ⟨rfl, hL, hF⟩
      obtain ⟨J1, rfl, hL1, hF1⟩ := LL_ov hF hL rfl rfl
      refine V_pop X dX8_session_63 rfl ?_
      refine V_aload_n X dX8_session_64 rfl rfl ?_
      apply V_get X dX8_session_65 fk_X8_19
      · exact at_root
      · exact rfl
      apply V_callV0 X dX8_session_68 mk_X8_59 iv_Jx4a65c_size_8abf5 (k_size l (x := S.1 8 0 + 1) (hL1.ov (S := pa (pa (pa (pa S 9 (nn (S.1 8 0)) t) 10 (nn (S.1 8 0)) (S.1 0 0 + t)) 11 (nn (S.1 8 0)) 0) 8 0 (S.1 8 0 + 1)) rfl rfl) (by rw [List.length_append, rg_len]; exact ei.2.symm))
      · exact ll_o (hL1.ov (S := pa (pa (pa (pa S 9 (nn (S.1 8 0)) t) 10 (nn (S.1 8 0)) (S.1 0 0 + t)) 11 (nn (S.1 8 0)) 0) 8 0 (S.1 8 0 + 1)) rfl rfl)
      · exact rfl
      · exact Nat.le_of_ble_eq_true rfl
      · exact ⟨Nat.le_of_ble_eq_true rfl, Nat.le_of_ble_eq_true rfl⟩
      · exact ⟨by dsimp only [rmm]; omega, by dsimp only [rmm]; omega⟩
      rintro r I1 ⟨rfl, rfl⟩
      refine V_iconst (v := 1) X dX8_session_71 (by decide) ?_
      refine V_isub X dX8_session_72 ?_
      refine V_iret X dX8_session_73 ?_ ?_ ?_ ?_
      · exact rfl
      · dsimp only [rmm]; omega
      · dsimp only [rmm]; omega
      have R1 : RJ (pa (pa (pa (pa S 9 (nn (S.1 8 0)) t) 10 (nn (S.1 8 0)) (S.1 0 0 + t)) 11 (nn (S.1 8 0)) 0) 8 0 (S.1 8 0 + 1)) Q J1 := by
        refine ⟨((R.1.upd (k := 22) rfl hFb hLa).upd (k := 20) (i := 2) rfl hF1 hL1).to (lsT2 ?_ ?_ ?_), ((R.2.fr (k := 22) rfl hFb).fr (k := 20) rfl hF1).cg⟩
        · show some (rg 4 (nn (S.1 8 0 + 1))) = _
          rw [ei.1, rg_s]
        · show (if nn (S.1 8 0) < nn (S.1 8 0 + 1) then some (mlL (pa (pa (pa (pa S 9 (nn (S.1 8 0)) t) 10 (nn (S.1 8 0)) (S.1 0 0 + t)) 11 (nn (S.1 8 0)) 0) 8 0 (S.1 8 0 + 1)) (nn (S.1 8 0))) else none) = _
          rw [if_pos (by omega)]
          unfold mlL
          rw [show (pa (pa (pa (pa S 9 (nn (S.1 8 0)) t) 10 (nn (S.1 8 0)) (S.1 0 0 + t)) 11 (nn (S.1 8 0)) 0) 8 0 (S.1 8 0 + 1)).1 13 (nn (S.1 8 0)) = 0 from (z.2.1 _ (Nat.le_refl _)).2]
          rfl
        · intro k i hk hne hne2
          rcases lk_c hk with rfl | rfl | rfl | rfl | rfl
          · exact ls20 (j := 2) (fun q => hne2 ⟨rfl, q⟩) (Or.inl rfl) (Or.inl rfl) (Or.inr rfl) (Or.inl rfl) (Or.inl rfl) (Or.inl rfl)
          · exact up_if (fun q => hne ⟨rfl, q⟩) ei.1 rfl
          · exact ls24
          · exact ls26
          · exact ls28
      exact RES.of (q := op_session S t) (by rw [op_session, if_pos h_8, if_neg hq.2.2] <;> rfl) R1 ((hFb.fj (k := 22) rfl).tr (hF1.fj (k := 20) rfl))
    have hq := ct_ge c.2.2.1 (by decide) 12 rfl c_27
    refine V_aload_n X dX8_session_30 rfl rfl ?_
    refine V_bipush (v := (-8)) X dX8_session_31 (by decide) ?_
    apply V_callV1 X dX8_session_33 mk_X8_55 iv_X8_refuse (k_refuse l (S := S) (by unfold vp_in; decide) (by decide))
    · exact at_root
    · exact rfl
    · exact Nat.le_of_ble_eq_true rfl
    · exact ⟨Nat.le_of_ble_eq_true rfl, Nat.le_of_ble_eq_true rfl⟩
    · exact ⟨by dsimp only [rmm]; omega, by dsimp only [rmm]; omega⟩
    rintro r I1 ⟨rfl, rfl⟩
    refine V_iret X dX8_session_36 ?_ ?_ ?_ ?_
    · exact rfl
    · dsimp only [rmm]; omega
    · dsimp only [rmm]; omega
    exact RES.of (q := op_session S t) (by rw [op_session, if_pos h_8, if_pos hq] <;> rfl) R.cg FJ.rf
  have h_8 := bz_f c_8
  refine V_aload_n X dX8_session_11 rfl rfl ?_
  refine V_bipush (v := (-7)) X dX8_session_12 (by decide) ?_
  apply V_callV1 X dX8_session_14 mk_X8_55 iv_X8_refuse (k_refuse l (S := S) (by unfold vp_in; decide) (by decide))
  · exact at_root
  · exact rfl
  · exact Nat.le_of_ble_eq_true rfl
  · exact ⟨Nat.le_of_ble_eq_true rfl, Nat.le_of_ble_eq_true rfl⟩
  · exact ⟨by dsimp only [rmm]; omega, by dsimp only [rmm]; omega⟩
  rintro r I1 ⟨rfl, rfl⟩
  refine V_iret X dX8_session_17 ?_ ?_ ?_ ?_
  · exact rfl
  · dsimp only [rmm]; omega
  · dsimp only [rmm]; omega
  exact RES.of (q := op_session S t) (by rw [op_session, if_neg h_8] <;> rfl) R.cg FJ.rf
set_option maxRecDepth 100000 in
set_option maxHeartbeats 4000000 in
theorem k_mayS (l : Launch) {I : aH} (p k li m : Int32) : AM l yX7_mayHave cX7_mayHave 4 (some .boolean) (rmm 1 0 0 22) [.int p, .int k, .int li, .int m] I (fun r I' => r = some (.int (if areR p k li m then 1 else 0)) ∧ I' = I) := by
  refine AM_of RX7 (by decide) rfl [some (.int p), some (.int k), some (.int li), some (.int m)] rfl (Nat.le_of_ble_eq_true rfl) (fun Z X hNm => ?_)
  refine V_iload_n X dX7_mayHave_0 rfl ?_
  refine V_iconst (v := 1) X dX7_mayHave_1 (by decide) ?_
  refine V_bipush (v := 100) X dX7_mayHave_2 (by decide) ?_
  refine V_callSN (host := RX8) X dX7_mayHave_4 (by decide) in_X8_isWithin cd_X8_isWithin pn_X8_isWithin st_X8_isWithin _ [] (k_within l p 1 100) rfl rfl (Nat.le_of_ble_eq_true rfl) ⟨Nat.le_of_ble_eq_true rfl, Nat.le_of_ble_eq_true rfl⟩ ?_ ?_
  · exact ⟨by dsimp only [rmm]; omega, by dsimp only [rmm]; omega⟩
  rintro r I1 ⟨rfl, rfl⟩
  refine V_if_eq X dX7_mayHave_7 44 (by decide) (fun c_7 => ?_) (fun c_7 => ?_)
  · have h_7 := bz_f c_7
    refine V_iconst (v := 0) X dX7_mayHave_44 (by decide) ?_
    refine V_iret X dX7_mayHave_45 ?_ ?_ ?_ ?_
    · exact rfl
    · dsimp only [rmm]; omega
    · dsimp only [rmm]; omega
    exact ⟨by rw [if_neg (fun q => h_7 q.1)], rfl⟩
  have h_7 := bz_t c_7
  refine V_iload_n X dX7_mayHave_10 rfl ?_
  refine V_iconst (v := 1) X dX7_mayHave_11 (by decide) ?_
  refine V_bipush (v := 20) X dX7_mayHave_12 (by decide) ?_
  refine V_callSN (host := RX8) X dX7_mayHave_14 (by decide) in_X8_isWithin cd_X8_isWithin pn_X8_isWithin st_X8_isWithin _ [] (k_within l k 1 20) rfl rfl (Nat.le_of_ble_eq_true rfl) ⟨Nat.le_of_ble_eq_true rfl, Nat.le_of_ble_eq_true rfl⟩ ?_ ?_
  · exact ⟨by dsimp only [rmm]; omega, by dsimp only [rmm]; omega⟩
  rintro r I1 ⟨rfl, rfl⟩
  refine V_if_eq X dX7_mayHave_17 44 (by decide) (fun c_17 => ?_) (fun c_17 => ?_)
  · have h_17 := bz_f c_17
    refine V_iconst (v := 0) X dX7_mayHave_44 (by decide) ?_
    refine V_iret X dX7_mayHave_45 ?_ ?_ ?_ ?_
    · exact rfl
    · dsimp only [rmm]; omega
    · dsimp only [rmm]; omega
    exact ⟨by rw [if_neg (fun q => h_17 q.2.1)], rfl⟩
  have h_17 := bz_t c_17
  refine V_iload_n X dX7_mayHave_20 rfl ?_
  refine V_iconst (v := 3) X dX7_mayHave_21 (by decide) ?_
  refine V_bipush (v := 100) X dX7_mayHave_22 (by decide) ?_
  refine V_callSN (host := RX8) X dX7_mayHave_24 (by decide) in_X8_isWithin cd_X8_isWithin pn_X8_isWithin st_X8_isWithin _ [] (k_within l li 3 100) rfl rfl (Nat.le_of_ble_eq_true rfl) ⟨Nat.le_of_ble_eq_true rfl, Nat.le_of_ble_eq_true rfl⟩ ?_ ?_
  · exact ⟨by dsimp only [rmm]; omega, by dsimp only [rmm]; omega⟩
  rintro r I1 ⟨rfl, rfl⟩
  refine V_if_eq X dX7_mayHave_27 44 (by decide) (fun c_27 => ?_) (fun c_27 => ?_)
  · have h_27 := bz_f c_27
    refine V_iconst (v := 0) X dX7_mayHave_44 (by decide) ?_
    refine V_iret X dX7_mayHave_45 ?_ ?_ ?_ ?_
    · exact rfl
    · dsimp only [rmm]; omega
    · dsimp only [rmm]; omega
    exact ⟨by rw [if_neg (fun q => h_27 q.2.2.1)], rfl⟩
  have h_27 := bz_t c_27
  refine V_iload_n X dX7_mayHave_30 rfl ?_
  refine V_iconst (v := 0) X dX7_mayHave_31 (by decide) ?_
  refine V_bipush (v := 10) X dX7_mayHave_32 (by decide) ?_
  refine V_callSN (host := RX8) X dX7_mayHave_34 (by decide) in_X8_isWithin cd_X8_isWithin pn_X8_isWithin st_X8_isWithin _ [] (k_within l m 0 10) rfl rfl (Nat.le_of_ble_eq_true rfl) ⟨Nat.le_of_ble_eq_true rfl, Nat.le_of_ble_eq_true rfl⟩ ?_ ?_
  · exact ⟨by dsimp only [rmm]; omega, by dsimp only [rmm]; omega⟩
  rintro r I1 ⟨rfl, rfl⟩
  refine V_if_eq X dX7_mayHave_37 44 (by decide) (fun c_37 => ?_) (fun c_37 => ?_)
  · have h_37 := bz_f c_37
    refine V_iconst (v := 0) X dX7_mayHave_44 (by decide) ?_
    refine V_iret X dX7_mayHave_45 ?_ ?_ ?_ ?_
    · exact rfl
    · dsimp only [rmm]; omega
    · dsimp only [rmm]; omega
    exact ⟨by rw [if_neg (fun q => h_37 q.2.2.2)], rfl⟩
  have h_37 := bz_t c_37
  refine V_iconst (v := 1) X dX7_mayHave_40 (by decide) ?_
  refine V_goto X dX7_mayHave_41 45 (by decide) ?_
  refine V_iret X dX7_mayHave_45 ?_ ?_ ?_ ?_
  · exact rfl
  · dsimp only [rmm]; omega
  · dsimp only [rmm]; omega
  exact ⟨by rw [if_pos ⟨h_7, h_17, h_27, h_37⟩], rfl⟩
set_option maxRecDepth 100000 in
set_option maxHeartbeats 4000000 in
theorem k_begin (l : Launch) {S : St} {J : aH} {i : Nat} {t p k li m : Int32} (h : i < nn (S.1 15 0)) : AM l yX7_begin cX7_begin 6 none (rmm 0 0 0 0) [.ref (kd 5 i 0), .int t, .int p, .int k, .int li, .int m] (ovc S J) (fun r I' => r = none ∧ I' = ovc (pa (pa (pa (pa (pa (pa (pa S 18 i t) 19 i p) 20 i k) 21 i li) 22 i m) 25 i k) 26 i li) J) := by
  refine AM_of RX7 (by decide) rfl [some (.ref (kd 5 i 0)), some (.int t), some (.int p), some (.int k), some (.int li), some (.int m)] rfl (Nat.le_of_ble_eq_true rfl) (fun Z X hNm => ?_)
  refine V_aload_n X dX7_begin_0 rfl rfl ?_
  refine V_iload_n X dX7_begin_1 rfl ?_
  refine P5_4 X dX7_begin_2 fk_X7_55 (h) ?_
  refine V_aload_n X dX7_begin_5 rfl rfl ?_
  refine V_iload_n X dX7_begin_6 rfl ?_
  refine P5_5 X dX7_begin_7 fk_X7_58 (h) ?_
  refine V_aload_n X dX7_begin_10 rfl rfl ?_
  refine V_iload_n X dX7_begin_11 rfl ?_
  refine P5_6 X dX7_begin_12 fk_X7_61 (h) ?_
  refine V_aload_n X dX7_begin_15 rfl rfl ?_
  refine V_iload X dX7_begin_16 rfl ?_
  refine P5_7 X dX7_begin_18 fk_X7_64 (h) ?_
  refine V_aload_n X dX7_begin_21 rfl rfl ?_
  refine V_iload X dX7_begin_22 rfl ?_
  refine P5_8 X dX7_begin_24 fk_X7_67 (h) ?_
  refine V_aload_n X dX7_begin_27 rfl rfl ?_
  refine V_iload_n X dX7_begin_28 rfl ?_
  refine P5_11 X dX7_begin_29 fk_X7_70 (h) ?_
  refine V_aload_n X dX7_begin_32 rfl rfl ?_
  refine V_iload X dX7_begin_33 rfl ?_
  refine P5_12 X dX7_begin_35 fk_X7_73 (h) ?_
  refine V_vret X dX7_begin_38 ?_ ?_ ?_
  · dsimp only [rmm]; omega
  · dsimp only [rmm]; omega
  exact ⟨rfl, rfl⟩
set_option maxRecDepth 100000 in
set_option maxHeartbeats 4000000 in
theorem n_sub (l : Launch) {I : aH} {i w : Nat} {a : Int32} (h : I (kd 5 i 0) = some (.inr (8, [.int 0, .null, .null, .null, .int 0, .int 0, .int 0, .int 0, .int 0, .int 0, .int 0, .int 0, .int 0, .int 0, .int 0, .int 0, .int 0, .int 0]))) (hz : I zed = some (.inl (3, aR 0 (fun _ => none)))) (hf : FrL I 24 i) (hg : FrL I 26 i) : AM l yX7_init cX7_init 3 none (rmm 4 2 6 80) [.ref (kd 5 i 0), .int a, .ref w] I (fun r I' => r = none ∧ ∃ I1 I2 o1, Fr 24 i I I1 ∧ LL I1 24 i [] ∧ Fr 26 i (hu I1 (kd 5 i 0) o1) I2 ∧ LL I2 26 i [] ∧ I' = hu I2 (kd 5 i 0) (.inr (8, [.int a, .ref (kd 24 i 0), .ref (kd 26 i 0), .ref w, .int 0, .int 0, .int 0, .int 0, .int 0, .int 1, .int 1, .int 0, .int 0, .int 0, .int 0, .int 0, .int 0, .int 0]))) := by
  refine AM_of RX7 (by decide) rfl [some (.ref (kd 5 i 0)), some (.int a), some (.ref w)] rfl (Nat.le_of_ble_eq_true rfl) (fun Z X hNm => ?_)
  refine V_aload_n X dX7_init_0 rfl rfl ?_
  refine V_objInit X dX7_init_1 ol_X7_1 ob_i ob_c (Nat.le_of_ble_eq_true rfl) (Nat.le_of_ble_eq_true rfl) ?_
  refine V_aload_n X dX7_init_4 rfl rfl ?_
  refine V_new X dX7_init_5 nk_X7_7 (kd 24 i 0) ?_ ?_ ?_ ?_ ?_ ?_
  · exact (hf 0).1
  · exact kd_nk (by decide)
  · exact ro_k (by decide)
  · dsimp only [rmm]; omega
  · dsimp only [rmm]; omega
  refine V_dup X dX7_init_8 rfl ?_
  refine V_callI0 X dX7_init_9 mk_X7_9 ii_Jx4a65c_init_da8c8 (c_lInit l (by decide) hu_s ((hu_n (kd_nk (by decide))).trans hz) (fun g => (hu_n (kd_nk (by decide))).trans (hf g).2)) (Nat.le_of_ble_eq_true rfl) ⟨Nat.le_of_ble_eq_true rfl, Nat.le_of_ble_eq_true rfl⟩ ?_ ?_
  · exact ⟨by dsimp only [rmm]; omega, by dsimp only [rmm]; omega⟩
  rintro r I1 ⟨rfl, hL, hF⟩
  have h0 : I1 (kd 5 i 0) = some (.inr (8, [.int 0, .null, .null, .null, .int 0, .int 0, .int 0, .int 0, .int 0, .int 0, .int 0, .int 0, .int 0, .int 0, .int 0, .int 0, .int 0, .int 0])) := (hF.k (by decide) (by decide)).trans ((hu_n (kd_nk (by decide))).trans h)
  have hz1 : I1 zed = some (.inl (3, aR 0 (fun _ => none))) := (hF.k (by decide) (by decide)).trans ((hu_n (kd_nk (by decide))).trans hz)
  have hg1 : FrL I1 26 i := fun g => ⟨(hF.k (by decide) (by decide)).trans ((hu_n (kd_nk (by decide))).trans (hg g).1), (hF.k (by decide) (by decide)).trans ((hu_n (kd_nk (by decide))).trans (hg g).2)⟩
  apply V_putF X hNm dX7_init_12 fp_X7_10
  · first | assumption | exact hu_s | exact (hu_n (by first | exact kd_nk (by decide) | exact kd_ni (by omega) | exact kd_ng (by omega) | assumption | exact Ne.symm (by assumption))).trans (by first | assumption | exact hu_s | exact (hu_n (by first | exact kd_nk (by decide) | exact kd_ni (by omega) | exact kd_ng (by omega) | assumption | exact Ne.symm (by assumption))).trans (by first | assumption | exact hu_s | exact (hu_n (by first | exact kd_nk (by decide) | exact kd_ni (by omega) | exact kd_ng (by omega) | assumption | exact Ne.symm (by assumption))).trans (by first | assumption | exact hu_s)))
  · exact ro_k (by decide)
  · exact Nat.le_of_ble_eq_true rfl
  · exact rfl
  · exact rfl
  refine V_aload_n X dX7_init_15 rfl rfl ?_
  refine V_new X dX7_init_16 nk_X7_7 (kd 26 i 0) ?_ ?_ ?_ ?_ ?_ ?_
  · exact (hu_n (kd_nk (by decide))).trans (hg1 0).1
  · exact kd_nk (by decide)
  · exact ro_k (by decide)
  · dsimp only [rmm]; omega
  · dsimp only [rmm]; omega
  refine V_dup X dX7_init_19 rfl ?_
  refine V_callI0 X dX7_init_20 mk_X7_9 ii_Jx4a65c_init_da8c8 (c_lInit l (by decide) hu_s ((hu_n (kd_nk (by decide))).trans ((hu_n (kd_nk (by decide))).trans hz1)) (fun g => (hu_n (kd_nk (by decide))).trans ((hu_n (kd_nk (by decide))).trans (hg1 g).2))) (Nat.le_of_ble_eq_true rfl) ⟨Nat.le_of_ble_eq_true rfl, Nat.le_of_ble_eq_true rfl⟩ ?_ ?_
  · exact ⟨by dsimp only [rmm]; omega, by dsimp only [rmm]; omega⟩
  rintro r I2 ⟨rfl, hL2, hF2⟩
  have h1 : I2 (kd 5 i 0) = _ := (hF2.k (by decide) (by decide)).trans ((hu_n (kd_nk (by decide))).trans hu_s)
  apply V_putF X hNm dX7_init_23 fp_X7_16
  · first | assumption | exact hu_s | exact (hu_n (by first | exact kd_nk (by decide) | exact kd_ni (by omega) | exact kd_ng (by omega) | assumption | exact Ne.symm (by assumption))).trans (by first | assumption | exact hu_s | exact (hu_n (by first | exact kd_nk (by decide) | exact kd_ni (by omega) | exact kd_ng (by omega) | assumption | exact Ne.symm (by assumption))).trans (by first | assumption | exact hu_s | exact (hu_n (by first | exact kd_nk (by decide) | exact kd_ni (by omega) | exact kd_ng (by omega) | assumption | exact Ne.symm (by assumption))).trans (by first | assumption | exact hu_s)))
  · exact ro_k (by decide)
  · exact Nat.le_of_ble_eq_true rfl
  · exact rfl
  · exact rfl
  refine V_aload_n X dX7_init_26 rfl rfl ?_
  refine V_iconst (v := 1) X dX7_init_27 (by decide) ?_
  apply V_put X dX7_init_28 fk_X7_19
  · first | assumption | exact hu_s | exact (hu_n (by first | exact kd_nk (by decide) | exact kd_ni (by omega) | exact kd_ng (by omega) | assumption | exact Ne.symm (by assumption))).trans (by first | assumption | exact hu_s | exact (hu_n (by first | exact kd_nk (by decide) | exact kd_ni (by omega) | exact kd_ng (by omega) | assumption | exact Ne.symm (by assumption))).trans (by first | assumption | exact hu_s | exact (hu_n (by first | exact kd_nk (by decide) | exact kd_ni (by omega) | exact kd_ng (by omega) | assumption | exact Ne.symm (by assumption))).trans (by first | assumption | exact hu_s)))
  · exact ro_k (by decide)
  · exact Nat.le_of_ble_eq_true rfl
  · exact rfl
  · exact rfl
  refine V_aload_n X dX7_init_31 rfl rfl ?_
  refine V_iconst (v := 1) X dX7_init_32 (by decide) ?_
  apply V_put X dX7_init_33 fk_X7_23
  · first | assumption | exact hu_s | exact (hu_n (by first | exact kd_nk (by decide) | exact kd_ni (by omega) | exact kd_ng (by omega) | assumption | exact Ne.symm (by assumption))).trans (by first | assumption | exact hu_s | exact (hu_n (by first | exact kd_nk (by decide) | exact kd_ni (by omega) | exact kd_ng (by omega) | assumption | exact Ne.symm (by assumption))).trans (by first | assumption | exact hu_s | exact (hu_n (by first | exact kd_nk (by decide) | exact kd_ni (by omega) | exact kd_ng (by omega) | assumption | exact Ne.symm (by assumption))).trans (by first | assumption | exact hu_s)))
  · exact ro_k (by decide)
  · exact Nat.le_of_ble_eq_true rfl
  · exact rfl
  · exact rfl
  refine V_aload_n X dX7_init_36 rfl rfl ?_
  refine V_iconst (v := 0) X dX7_init_37 (by decide) ?_
  apply V_put X dX7_init_38 fk_X7_27
  · first | assumption | exact hu_s | exact (hu_n (by first | exact kd_nk (by decide) | exact kd_ni (by omega) | exact kd_ng (by omega) | assumption | exact Ne.symm (by assumption))).trans (by first | assumption | exact hu_s | exact (hu_n (by first | exact kd_nk (by decide) | exact kd_ni (by omega) | exact kd_ng (by omega) | assumption | exact Ne.symm (by assumption))).trans (by first | assumption | exact hu_s | exact (hu_n (by first | exact kd_nk (by decide) | exact kd_ni (by omega) | exact kd_ng (by omega) | assumption | exact Ne.symm (by assumption))).trans (by first | assumption | exact hu_s)))
  · exact ro_k (by decide)
  · exact Nat.le_of_ble_eq_true rfl
  · exact rfl
  · exact rfl
  refine V_aload_n X dX7_init_41 rfl rfl ?_
  refine V_iconst (v := 0) X dX7_init_42 (by decide) ?_
  apply V_put X dX7_init_43 fk_X7_30
  · first | assumption | exact hu_s | exact (hu_n (by first | exact kd_nk (by decide) | exact kd_ni (by omega) | exact kd_ng (by omega) | assumption | exact Ne.symm (by assumption))).trans (by first | assumption | exact hu_s | exact (hu_n (by first | exact kd_nk (by decide) | exact kd_ni (by omega) | exact kd_ng (by omega) | assumption | exact Ne.symm (by assumption))).trans (by first | assumption | exact hu_s | exact (hu_n (by first | exact kd_nk (by decide) | exact kd_ni (by omega) | exact kd_ng (by omega) | assumption | exact Ne.symm (by assumption))).trans (by first | assumption | exact hu_s)))
  · exact ro_k (by decide)
  · exact Nat.le_of_ble_eq_true rfl
  · exact rfl
  · exact rfl
  refine V_aload_n X dX7_init_46 rfl rfl ?_
  refine V_iconst (v := 0) X dX7_init_47 (by decide) ?_
  apply V_put X dX7_init_48 fk_X7_33
  · first | assumption | exact hu_s | exact (hu_n (by first | exact kd_nk (by decide) | exact kd_ni (by omega) | exact kd_ng (by omega) | assumption | exact Ne.symm (by assumption))).trans (by first | assumption | exact hu_s | exact (hu_n (by first | exact kd_nk (by decide) | exact kd_ni (by omega) | exact kd_ng (by omega) | assumption | exact Ne.symm (by assumption))).trans (by first | assumption | exact hu_s | exact (hu_n (by first | exact kd_nk (by decide) | exact kd_ni (by omega) | exact kd_ng (by omega) | assumption | exact Ne.symm (by assumption))).trans (by first | assumption | exact hu_s)))
  · exact ro_k (by decide)
  · exact Nat.le_of_ble_eq_true rfl
  · exact rfl
  · exact rfl
  refine V_aload_n X dX7_init_51 rfl rfl ?_
  refine V_iconst (v := 0) X dX7_init_52 (by decide) ?_
  apply V_put X dX7_init_53 fk_X7_36
  · first | assumption | exact hu_s | exact (hu_n (by first | exact kd_nk (by decide) | exact kd_ni (by omega) | exact kd_ng (by omega) | assumption | exact Ne.symm (by assumption))).trans (by first | assumption | exact hu_s | exact (hu_n (by first | exact kd_nk (by decide) | exact kd_ni (by omega) | exact kd_ng (by omega) | assumption | exact Ne.symm (by assumption))).trans (by first | assumption | exact hu_s | exact (hu_n (by first | exact kd_nk (by decide) | exact kd_ni (by omega) | exact kd_ng (by omega) | assumption | exact Ne.symm (by assumption))).trans (by first | assumption | exact hu_s)))
  · exact ro_k (by decide)
  · exact Nat.le_of_ble_eq_true rfl
  · exact rfl
  · exact rfl
  refine V_aload_n X dX7_init_56 rfl rfl ?_
  refine V_iconst (v := 0) X dX7_init_57 (by decide) ?_
  apply V_put X dX7_init_58 fk_X7_39
  · first | assumption | exact hu_s | exact (hu_n (by first | exact kd_nk (by decide) | exact kd_ni (by omega) | exact kd_ng (by omega) | assumption | exact Ne.symm (by assumption))).trans (by first | assumption | exact hu_s | exact (hu_n (by first | exact kd_nk (by decide) | exact kd_ni (by omega) | exact kd_ng (by omega) | assumption | exact Ne.symm (by assumption))).trans (by first | assumption | exact hu_s | exact (hu_n (by first | exact kd_nk (by decide) | exact kd_ni (by omega) | exact kd_ng (by omega) | assumption | exact Ne.symm (by assumption))).trans (by first | assumption | exact hu_s)))
  · exact ro_k (by decide)
  · exact Nat.le_of_ble_eq_true rfl
  · exact rfl
  · exact rfl
  refine V_aload_n X dX7_init_61 rfl rfl ?_
  refine V_iload_n X dX7_init_62 rfl ?_
  apply V_putF X hNm dX7_init_63 fp_X7_42
  · first | assumption | exact hu_s | exact (hu_n (by first | exact kd_nk (by decide) | exact kd_ni (by omega) | exact kd_ng (by omega) | assumption | exact Ne.symm (by assumption))).trans (by first | assumption | exact hu_s | exact (hu_n (by first | exact kd_nk (by decide) | exact kd_ni (by omega) | exact kd_ng (by omega) | assumption | exact Ne.symm (by assumption))).trans (by first | assumption | exact hu_s | exact (hu_n (by first | exact kd_nk (by decide) | exact kd_ni (by omega) | exact kd_ng (by omega) | assumption | exact Ne.symm (by assumption))).trans (by first | assumption | exact hu_s)))
  · exact ro_k (by decide)
  · exact Nat.le_of_ble_eq_true rfl
  · exact rfl
  · exact rfl
  refine V_aload_n X dX7_init_66 rfl rfl ?_
  refine V_aload_n X dX7_init_67 rfl rfl ?_
  apply V_put X dX7_init_68 fk_X7_45
  · first | assumption | exact hu_s | exact (hu_n (by first | exact kd_nk (by decide) | exact kd_ni (by omega) | exact kd_ng (by omega) | assumption | exact Ne.symm (by assumption))).trans (by first | assumption | exact hu_s | exact (hu_n (by first | exact kd_nk (by decide) | exact kd_ni (by omega) | exact kd_ng (by omega) | assumption | exact Ne.symm (by assumption))).trans (by first | assumption | exact hu_s | exact (hu_n (by first | exact kd_nk (by decide) | exact kd_ni (by omega) | exact kd_ng (by omega) | assumption | exact Ne.symm (by assumption))).trans (by first | assumption | exact hu_s)))
  · exact ro_k (by decide)
  · exact Nat.le_of_ble_eq_true rfl
  · exact rfl
  · exact rfl
  refine V_vret X dX7_init_71 ?_ ?_ ?_
  · dsimp only [rmm]; omega
  · dsimp only [rmm]; omega
  exact ⟨rfl, I1, I2, _, Fr.tr Fr.o hF, hL, Fr.tr Fr.o hF2, hL2, by rw [hu_hu, hu_hu, hu_hu, hu_hu, hu_hu, hu_hu, hu_hu, hu_hu, hu_hu]; rfl⟩
def SBf (S : St) (b : Nat) : St := pa (pa (pa (pa (pa (pa (pa S 18 b 0) 19 b 0) 20 b 0) 21 b 0) 22 b 0) 25 b 0) 26 b 0
theorem SBf_n {S : St} {b i f : Nat} (h : i ≠ b) : (SBf S b).1 f i = S.1 f i := by simp [SBf, pa_1, h]
def subN (S : St) (s : Int32) : St := pa (pa (pa (pa (pa (SBf S (nn (S.1 15 0))) 15 0 (S.1 15 0 + 1)) 16 (nn (S.1 15 0)) 1) 17 (nn (S.1 15 0)) s) 23 (nn (S.1 15 0)) 1) 24 (nn (S.1 15 0)) 1
theorem new_sub {S : St} {J : aH} {s : Int32} (c : ct S 15 20) (hz : S.1 27 (nn (S.1 15 0)) = 0 ∧ S.1 28 (nn (S.1 15 0)) = 0 ∧ S.1 29 (nn (S.1 15 0)) = 0 ∧ S.1 31 (nn (S.1 15 0)) = 0) : hu (ovc S J) (kd 5 (nn (S.1 15 0)) 0) (.inr (8, [.int (S.1 15 0), .ref (kd 24 (nn (S.1 15 0)) 0), .ref (kd 26 (nn (S.1 15 0)) 0), .ref (kd 4 (nn s) 0), .int 0, .int 0, .int 0, .int 0, .int 0, .int 1, .int 1, .int 0, .int 0, .int 0, .int 0, .int 0, .int 0, .int 0])) = ovc (subN S s) J := by
  have e1 : nn ((subN S s).1 15 0) = (nn (S.1 15 0)) + 1 := (ct_inc c (by decide)).1
  have e0 : S.1 15 0 = nI (nn (S.1 15 0)) := (ct_nn c (by decide)).2
  obtain ⟨z1, z2, z3, z4⟩ := hz
  refine hu_ovc rfl ?_ ?_
  · have : ob (subN S s) 5 (nn (S.1 15 0)) = some (.inr (8, subO (subN S s) (nn (S.1 15 0)))) := if_pos (by omega)
    have f0 : ∀ f, f ≠ 15 → f ≠ 16 → f ≠ 17 → f ≠ 23 → f ≠ 24 → f ≠ 18 → f ≠ 19 → f ≠ 20 → f ≠ 21 → f ≠ 22 → f ≠ 25 → f ≠ 26 → (subN S s).1 f (nn (S.1 15 0)) = S.1 f (nn (S.1 15 0)) := fun f a1 a2 a3 a4 a5 a6 a7 a8 a9 b1 b2 b3 => by simp [subN, SBf, pa_1, a1, a2, a3, a4, a5, a6, a7, a8, a9, b1, b2, b3]
    rw [this]
    unfold subO
    rw [f0 27 (by decide) (by decide) (by decide) (by decide) (by decide) (by decide) (by decide) (by decide) (by decide) (by decide) (by decide) (by decide), f0 28 (by decide) (by decide) (by decide) (by decide) (by decide) (by decide) (by decide) (by decide) (by decide) (by decide) (by decide) (by decide), f0 29 (by decide) (by decide) (by decide) (by decide) (by decide) (by decide) (by decide) (by decide) (by decide) (by decide) (by decide) (by decide), f0 31 (by decide) (by decide) (by decide) (by decide) (by decide) (by decide) (by decide) (by decide) (by decide) (by decide) (by decide) (by decide), z1, z2, z3, z4, ← e0]
    have g : ∀ f x, (f = 16 ∧ x = 1) ∨ (f = 17 ∧ x = s) ∨ (f = 23 ∧ x = 1) ∨ (f = 24 ∧ x = 1) ∨ ((f = 18 ∨ f = 19 ∨ f = 20 ∨ f = 21 ∨ f = 22 ∨ f = 25 ∨ f = 26) ∧ x = 0) → (subN S s).1 f (nn (S.1 15 0)) = x := by
      intro f x h
      rcases h with ⟨rfl, rfl⟩ | ⟨rfl, rfl⟩ | ⟨rfl, rfl⟩ | ⟨rfl, rfl⟩ | ⟨rfl | rfl | rfl | rfl | rfl | rfl | rfl, rfl⟩ <;> simp [subN, SBf, pa_1]
    rw [g 16 1 (by simp), g 17 s (by simp), g 23 1 (by simp), g 24 1 (by simp), g 18 0 (by simp), g 19 0 (by simp), g 20 0 (by simp), g 21 0 (by simp), g 22 0 (by simp), g 25 0 (by simp), g 26 0 (by simp)]
    rfl
  · intro k' i' hk hne
    rcases kO_c hk with rfl | rfl | rfl | rfl | rfl | rfl | rfl | rfl | rfl
    · exact oc1 rfl rfl rfl rfl
    · exact oc2 rfl rfl rfl
    · exact oc3 rfl rfl rfl rfl
    · exact oc4 rfl rfl rfl rfl rfl
    · have hi : i' ≠ (nn (S.1 15 0)) := fun z => hne ⟨rfl, z⟩
      have e : subO (subN S s) i' = subO S i' := by simp [subO, subN, SBf, pa_1, hi]
      show (if i' < nn ((subN S s).1 15 0) then (some (.inr (8, subO (subN S s) i')) : Option aO) else none) = (if i' < (nn (S.1 15 0)) then (some (.inr (8, subO S i')) : Option aO) else none)
      exact up_if hi e1 (by rw [e])
    · exact oc6 rfl rfl rfl rfl rfl rfl rfl rfl rfl rfl
    · exact oc7 rfl rfl rfl
    · exact oc8 rfl rfl rfl rfl rfl rfl rfl
    · exact oc11 rfl
theorem pa_pa {S : St} {k i : Nat} {x y : Int32} : pa (pa S k i x) k i y = pa S k i y := by
  refine Prod.ext ?_ rfl
  funext k' i'
  simp only [pa_1]
  split <;> rfl
theorem St_ext {S S' : St} (h : ∀ f i, S.1 f i = S'.1 f i) (h2 : S.2 = S'.2) : S = S' := Prod.ext (by funext f i; exact h f i) h2
def MW (S : St) : Prop := ∀ m, m < nn (S.1 48 0) → sm (S.1 49 m) 19 ∧ nn (S.1 49 m) < nn (S.1 15 0)
def MA (S : St) : Prop := ∀ s, s < nn (S.1 8 0) → sm (S.1 13 s) 512 ∧ ∀ j, j < nn (S.1 13 s) → sm (S.1 14 (1200 * s + j)) 511 ∧ nn (S.1 14 (1200 * s + j)) < nn (S.1 48 0)
def BT (S : St) : Prop := (∀ j, S.1 47 j = 0 ∨ S.1 47 j = 1) ∧ (∀ e, S.1 58 e = 0 ∨ S.1 58 e = 1)
