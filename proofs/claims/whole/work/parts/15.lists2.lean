theorem getD_set {L : List Nat} {β j x : Nat} (hj : x < L.length) : (L.set j β).getD x 0 = if x = j then β else L.getD x 0 := by
  rw [List.getD_eq_getElem?_getD, List.getD_eq_getElem?_getD, List.getElem?_set]
  by_cases e : j = x
  · subst e
    rw [if_pos rfl, if_pos hj, if_pos rfl]
    rfl
  · rw [if_neg e, if_neg (fun q => e q.symm)]
theorem getD_era {L : List Nat} {j x : Nat} : (L.eraseIdx j).getD x 0 = if x < j then L.getD x 0 else L.getD (x + 1) 0 := by
  rw [List.getD_eq_getElem?_getD, List.getElem?_eraseIdx]
  split
  · rw [List.getD_eq_getElem?_getD]
  · rw [List.getD_eq_getElem?_getD]
set_option maxRecDepth 100000 in
set_option maxHeartbeats 4000000 in
theorem c_set (l : Launch) {I : aH} {k i j β : Nat} {L : List Nat} (hk : k ≠ 0) (hL : LL I k i L) (hn : L.length < 2 ^ 26) (hj : j < L.length) (hβ : EO I β) : AM l yJx4a65c_set_bcc79 cJx4a65c_set_bcc79 4 (some (.object "java/lang/Object")) (rmm 2 0 0 43) [.ref (kd k i 0), .int (nI j), .ref β] I (fun r I' => r = some (.ref (L.getD j 0)) ∧ LL I' k i (L.set j β) ∧ Fr k i I I') := by
  have hL0 := hL
  obtain ⟨mc, g, cap, f, h1, h2, h3, hcp, h4, h5, h6⟩ := hL
  obtain ⟨ci, fs, C, T, N0, b1, b2, b3⟩ := id hβ
  have hg : g ≠ 0 := fun q => by have := h4.mp q; omega
  rw [arA_s hg] at h1 h2
  refine AM_of RJx4a65c (by decide) rfl [some (.ref (kd k i 0)), some (.int (nI j)), some (.ref β), none] rfl (Nat.le_of_ble_eq_true rfl) (fun Z X hNm => ?_)
  refine V_iload_n X dJx4a65c_set_bcc79_0 rfl ?_
  refine V_aload_n X dJx4a65c_set_bcc79_1 rfl rfl ?_
  apply V_get X dJx4a65c_set_bcc79_2 fk_Jx4a65c_48
  · first | assumption | exact hu_s | exact (hu_n (by first | exact kd_nk (by decide) | exact kd_ni (by omega) | exact kd_ng (by omega) | assumption | exact Ne.symm (by assumption))).trans (by first | assumption | exact hu_s | exact (hu_n (by first | exact kd_nk (by decide) | exact kd_ni (by omega) | exact kd_ng (by omega) | assumption | exact Ne.symm (by assumption))).trans (by first | assumption | exact hu_s | exact (hu_n (by first | exact kd_nk (by decide) | exact kd_ni (by omega) | exact kd_ng (by omega) | assumption | exact Ne.symm (by assumption))).trans (by first | assumption | exact hu_s)))
  · exact rfl
  refine V_callS2 X dJx4a65c_set_bcc79_5 mk_Jx4a65c_118 st_J15_checkIndex_7cf53 (c_ci l hj (by omega)) (Nat.le_of_ble_eq_true rfl) ⟨Nat.le_of_ble_eq_true rfl, Nat.le_of_ble_eq_true rfl⟩ ?_ ?_
  · exact ⟨by dsimp only [rmm]; omega, by dsimp only [rmm]; omega⟩
  rintro r I1 ⟨rfl, rfl⟩
  refine V_pop X dJx4a65c_set_bcc79_8 rfl ?_
  refine V_aload_n X dJx4a65c_set_bcc79_9 rfl rfl ?_
  refine V_iload_n X dJx4a65c_set_bcc79_10 rfl ?_
  apply V_callV1 X dJx4a65c_set_bcc79_11 mk_Jx4a65c_123 iv_Jx4a65c_elementData_915e3 (c_elementData l hL0 (by omega) hj)
  · first | assumption | exact hu_s | exact (hu_n (by first | exact kd_nk (by decide) | exact kd_ni (by omega) | exact kd_ng (by omega) | assumption | exact Ne.symm (by assumption))).trans (by first | assumption | exact hu_s | exact (hu_n (by first | exact kd_nk (by decide) | exact kd_ni (by omega) | exact kd_ng (by omega) | assumption | exact Ne.symm (by assumption))).trans (by first | assumption | exact hu_s | exact (hu_n (by first | exact kd_nk (by decide) | exact kd_ni (by omega) | exact kd_ng (by omega) | assumption | exact Ne.symm (by assumption))).trans (by first | assumption | exact hu_s)))
  · exact rfl
  · exact Nat.le_of_ble_eq_true rfl
  · exact ⟨Nat.le_of_ble_eq_true rfl, Nat.le_of_ble_eq_true rfl⟩
  · exact ⟨by dsimp only [rmm]; omega, by dsimp only [rmm]; omega⟩
  rintro r I1 ⟨rfl, rfl⟩
  refine V_astore_n X dJx4a65c_set_bcc79_14 (by decide) rfl rfl ?_
  refine V_aload_n X dJx4a65c_set_bcc79_15 rfl rfl ?_
  apply V_get X dJx4a65c_set_bcc79_16 fk_Jx4a65c_9
  · first | assumption | exact hu_s | exact (hu_n (by first | exact kd_nk (by decide) | exact kd_ni (by omega) | exact kd_ng (by omega) | assumption | exact Ne.symm (by assumption))).trans (by first | assumption | exact hu_s | exact (hu_n (by first | exact kd_nk (by decide) | exact kd_ni (by omega) | exact kd_ng (by omega) | assumption | exact Ne.symm (by assumption))).trans (by first | assumption | exact hu_s | exact (hu_n (by first | exact kd_nk (by decide) | exact kd_ni (by omega) | exact kd_ng (by omega) | assumption | exact Ne.symm (by assumption))).trans (by first | assumption | exact hu_s)))
  · exact rfl
  refine V_iload_n X dJx4a65c_set_bcc79_19 rfl ?_
  refine V_aload_n X dJx4a65c_set_bcc79_20 rfl rfl ?_
  apply V_aastore (t := 3) X dJx4a65c_set_bcc79_21 (fun _ => rfl)
  · exact h2
  · exact ro_k (by omega)
  · exact vp_in_nI2 (by omega) (by omega)
  · exact b1
  · exact b2
  · exact Or.inr b3
  rw [nI_clamp (by omega)]
  refine V_aload_n X dJx4a65c_set_bcc79_22 rfl rfl ?_
  refine V_aret X dJx4a65c_set_bcc79_23 (Or.inl ⟨_, rfl⟩) rfl ?_ ?_ ?_
  · dsimp only [rmm]; omega
  · dsimp only [rmm]; omega
  refine ⟨rfl, ⟨mc, g, cap, va_up f j (some β), ?_, ?_, ?_, hcp, h4, ?_, ?_⟩, Fr.a⟩
  · rw [arA_s hg, List.length_set]; exact (hu_n (kd_nk (by omega))).trans h1
  · rw [arA_s hg]; exact hu_s
  · rw [List.length_set]; exact h3
  · intro x hx
    rw [List.length_set] at hx
    rw [getD_set hx]
    unfold va_up
    split
    · rfl
    · exact h5 x hx
  · intro g1 hg1
    rw [hu_n (kd_ng (by omega))]
    exact h6 g1 hg1
set_option maxRecDepth 100000 in
set_option maxHeartbeats 4000000 in
theorem c_acInit (l : Launch) {I : aH} {a : Nat} : AM l yJxa1e45_init_da8c8 cJxa1e45_init_da8c8 1 none (rmm 1 0 0 12) [.ref a] I (fun r I' => r = none ∧ I' = I) := by
  refine AM_of RJxa1e45 (by decide) rfl [some (.ref a)] rfl (Nat.le_of_ble_eq_true rfl) (fun Z X hNm => ?_)
  refine V_aload_n X dJxa1e45_init_da8c8_0 rfl rfl ?_
  refine V_objInit X dJxa1e45_init_da8c8_1 ol_Jxa1e45_1 ob_i ob_c (Nat.le_of_ble_eq_true rfl) (Nat.le_of_ble_eq_true rfl) ?_
  refine V_vret X dJxa1e45_init_da8c8_4 ?_ ?_ ?_
  · dsimp only [rmm]; omega
  · dsimp only [rmm]; omega
  exact ⟨rfl, rfl⟩
set_option maxRecDepth 100000 in
set_option maxHeartbeats 4000000 in
theorem c_alInit (l : Launch) {I : aH} {k i : Nat} {v1 v2 : Value} (hk : k ≠ 0) (h : I (kd k i 0) = some (.inr (0, [.int 0, v1, v2]))) : AM l yJxc12de_init_da8c8 cJxc12de_init_da8c8 1 none (rmm 2 0 0 32) [.ref (kd k i 0)] I (fun r I' => r = none ∧ I' = hu I (kd k i 0) (.inr (0, [.int 0, v1, v2]))) := by
  refine AM_of RJxc12de (by decide) rfl [some (.ref (kd k i 0))] rfl (Nat.le_of_ble_eq_true rfl) (fun Z X hNm => ?_)
  refine V_aload_n X dJxc12de_init_da8c8_0 rfl rfl ?_
  refine V_callI0 X dJxc12de_init_da8c8_1 mk_Jxc12de_1 ii_Jxa1e45_init_da8c8 (c_acInit l) (Nat.le_of_ble_eq_true rfl) ⟨Nat.le_of_ble_eq_true rfl, Nat.le_of_ble_eq_true rfl⟩ ?_ ?_
  · exact ⟨by dsimp only [rmm]; omega, by dsimp only [rmm]; omega⟩
  rintro r I1 ⟨rfl, rfl⟩
  refine V_aload_n X dJxc12de_init_da8c8_4 rfl rfl ?_
  refine V_iconst (v := 0) X dJxc12de_init_da8c8_5 (by decide) ?_
  apply V_put X dJxc12de_init_da8c8_6 fk_Jxc12de_7
  · first | assumption | exact hu_s | exact (hu_n (by first | exact kd_nk (by decide) | exact kd_ni (by omega) | exact kd_ng (by omega) | assumption | exact Ne.symm (by assumption))).trans (by first | assumption | exact hu_s | exact (hu_n (by first | exact kd_nk (by decide) | exact kd_ni (by omega) | exact kd_ng (by omega) | assumption | exact Ne.symm (by assumption))).trans (by first | assumption | exact hu_s | exact (hu_n (by first | exact kd_nk (by decide) | exact kd_ni (by omega) | exact kd_ng (by omega) | assumption | exact Ne.symm (by assumption))).trans (by first | assumption | exact hu_s)))
  · exact ro_k hk
  · exact Nat.le_of_ble_eq_true rfl
  · exact rfl
  · exact rfl
  refine V_vret X dJxc12de_init_da8c8_9 ?_ ?_ ?_
  · dsimp only [rmm]; omega
  · dsimp only [rmm]; omega
  exact ⟨rfl, rfl⟩
set_option maxRecDepth 100000 in
set_option maxHeartbeats 4000000 in
theorem c_lInit (l : Launch) {I : aH} {k i : Nat} (hk : k ≠ 0) (h : I (kd k i 0) = some (.inr (0, [.int 0, .null, .int 0]))) (hz : I zed = some (.inl (3, aR 0 (fun _ => none)))) (hf : ∀ g, I (kd (k + 1) i g) = none) : AM l yJx4a65c_init_da8c8 cJx4a65c_init_da8c8 1 none (rmm 3 0 0 52) [.ref (kd k i 0)] I (fun r I' => r = none ∧ LL I' k i [] ∧ Fr k i I I') := by
  refine AM_of RJx4a65c (by decide) rfl [some (.ref (kd k i 0))] rfl (Nat.le_of_ble_eq_true rfl) (fun Z X hNm => ?_)
  refine V_aload_n X dJx4a65c_init_da8c8_0 rfl rfl ?_
  refine V_callI0 X dJx4a65c_init_da8c8_1 mk_Jx4a65c_1 ii_Jxc12de_init_da8c8 (c_alInit l hk h) (Nat.le_of_ble_eq_true rfl) ⟨Nat.le_of_ble_eq_true rfl, Nat.le_of_ble_eq_true rfl⟩ ?_ ?_
  · exact ⟨by dsimp only [rmm]; omega, by dsimp only [rmm]; omega⟩
  rintro r I1 ⟨rfl, rfl⟩
  refine V_aload_n X dJx4a65c_init_da8c8_4 rfl rfl ?_
  refine V_gets X dJx4a65c_init_da8c8_5 gs_Jx4a65c_39 ?_
  apply V_put X dJx4a65c_init_da8c8_8 fk_Jx4a65c_9
  · exact hu_s
  · exact ro_k hk
  · exact Nat.le_of_ble_eq_true rfl
  · exact rfl
  · exact rfl
  refine V_vret X dJx4a65c_init_da8c8_11 ?_ ?_ ?_
  · dsimp only [rmm]; omega
  · dsimp only [rmm]; omega
  refine ⟨rfl, ⟨0, 0, 0, fun _ => none, hu_s, ?_, Nat.le_refl 0, by decide, ⟨fun _ => rfl, fun _ => rfl⟩, fun j hj => by simp at hj, ?_⟩, Fr.o.tr Fr.o⟩
  · show hu (hu I _ _) _ _ zed = _
    have zk : zed ≠ kd k i 0 := kd_nk (fun e => hk e.symm)
    rw [hu_n zk, hu_n zk]
    exact hz
  · intro g1 _
    rw [hu_n (kd_nk (by omega)), hu_n (kd_nk (by omega))]
    exact hf g1
set_option maxRecDepth 100000 in
set_option maxHeartbeats 4000000 in
theorem c_fastRemove (l : Launch) {I : aH} {k i g cap n j : Nat} {mc : Int32} {f : Nat → Option Nat} {L : List Nat} (hk : k ≠ 0) (h1 : I (kd k i 0) = some (.inr (0, [.int mc, .ref (kd (k + 1) i g), .int (nI n)]))) (h2 : I (kd (k + 1) i g) = some (.inl (3, aR cap f))) (hl : L.length = n) (h3 : n ≤ cap) (hcp : cap < 2 ^ 28) (h4 : g = 0 ↔ cap = 0) (h5 : ∀ x, x < L.length → f x = some (L.getD x 0)) (h6 : ∀ g', g < g' → I (kd (k + 1) i g') = none) (hj : j < n) (hel : ∀ a ∈ L, EO I a) : AM l yJx4a65c_fastRemove_b59b0 cJx4a65c_fastRemove_b59b0 4 none (rmm 1 0 0 60) [.ref (kd k i 0), .ref (kd (k + 1) i g), .int (nI j)] I (fun r I' => r = none ∧ LL I' k i (L.eraseIdx j) ∧ Fr k i I I') := by
  refine AM_of RJx4a65c (by decide) rfl [some (.ref (kd k i 0)), some (.ref (kd (k + 1) i g)), some (.int (nI j)), none] rfl (Nat.le_of_ble_eq_true rfl) (fun Z X hNm => ?_)
  refine V_aload_n X dJx4a65c_fastRemove_b59b0_0 rfl rfl ?_
  refine V_dup X dJx4a65c_fastRemove_b59b0_1 rfl ?_
  apply V_get X dJx4a65c_fastRemove_b59b0_2 fk_Jx4a65c_63
  · first | assumption | exact hu_s | exact (hu_n (by first | exact kd_nk (by decide) | exact kd_ni (by omega) | exact kd_ng (by omega) | assumption | exact Ne.symm (by assumption))).trans (by first | assumption | exact hu_s | exact (hu_n (by first | exact kd_nk (by decide) | exact kd_ni (by omega) | exact kd_ng (by omega) | assumption | exact Ne.symm (by assumption))).trans (by first | assumption | exact hu_s | exact (hu_n (by first | exact kd_nk (by decide) | exact kd_ni (by omega) | exact kd_ng (by omega) | assumption | exact Ne.symm (by assumption))).trans (by first | assumption | exact hu_s)))
  · exact rfl
  refine V_iconst (v := 1) X dJx4a65c_fastRemove_b59b0_5 (by decide) ?_
  refine V_iadd X dJx4a65c_fastRemove_b59b0_6 ?_
  apply V_put X dJx4a65c_fastRemove_b59b0_7 fk_Jx4a65c_63
  · first | assumption | exact hu_s | exact (hu_n (by first | exact kd_nk (by decide) | exact kd_ni (by omega) | exact kd_ng (by omega) | assumption | exact Ne.symm (by assumption))).trans (by first | assumption | exact hu_s | exact (hu_n (by first | exact kd_nk (by decide) | exact kd_ni (by omega) | exact kd_ng (by omega) | assumption | exact Ne.symm (by assumption))).trans (by first | assumption | exact hu_s | exact (hu_n (by first | exact kd_nk (by decide) | exact kd_ni (by omega) | exact kd_ng (by omega) | assumption | exact Ne.symm (by assumption))).trans (by first | assumption | exact hu_s)))
  · exact ro_k hk
  · exact Nat.le_of_ble_eq_true rfl
  · exact rfl
  · exact rfl
  refine V_aload_n X dJx4a65c_fastRemove_b59b0_10 rfl rfl ?_
  apply V_get X dJx4a65c_fastRemove_b59b0_11 fk_Jx4a65c_48
  · exact hu_s
  · exact rfl
  refine V_iconst (v := 1) X dJx4a65c_fastRemove_b59b0_14 (by decide) ?_
  refine V_isub X dJx4a65c_fastRemove_b59b0_15 ?_
  rw [show nI n - 1 = nI (n - 1) from by rw [show (1 : Int32) = nI 1 from rfl, pk_sub (by omega)]]
  refine V_dup X dJx4a65c_fastRemove_b59b0_16 rfl ?_
  refine V_istore_n X dJx4a65c_fastRemove_b59b0_17 (by decide) rfl ?_
  refine V_iload_n X dJx4a65c_fastRemove_b59b0_18 rfl ?_
  refine V_icmp_le X dJx4a65c_fastRemove_b59b0_19 34 (by decide) (fun c_19 => ?_) (fun c_19 => ?_)
  · have hjn : j = n - 1 := by
      rcases Nat.lt_or_ge j (n - 1) with q | q
      · exact absurd c_19 (nI_ge q (by omega))
      · omega
    refine V_aload_n X dJx4a65c_fastRemove_b59b0_34 rfl rfl ?_
    refine V_aload_n X dJx4a65c_fastRemove_b59b0_35 rfl rfl ?_
    refine V_iload_n X dJx4a65c_fastRemove_b59b0_36 rfl ?_
    refine V_dup_x1 X dJx4a65c_fastRemove_b59b0_37 rfl rfl ?_
    apply V_put X dJx4a65c_fastRemove_b59b0_38 fk_Jx4a65c_48
    · exact hu_s
    · exact ro_k hk
    · exact Nat.le_of_ble_eq_true rfl
    · exact rfl
    · exact rfl
    refine V_null X dJx4a65c_fastRemove_b59b0_41 ?_
    apply V_aastoreN (t := 3) X dJx4a65c_fastRemove_b59b0_42 (fun _ => rfl)
    · exact (hu_n (kd_nk (by omega))).trans ((hu_n (kd_nk (by omega))).trans h2)
    · exact ro_k (by omega)
    · exact vp_in_nI2 (by omega) (by omega)
    rw [nI_clamp (by omega)]
    refine V_vret X dJx4a65c_fastRemove_b59b0_43 ?_ ?_ ?_
    · dsimp only [rmm]; omega
    · dsimp only [rmm]; omega
    have hg : g ≠ 0 := fun q => by have := h4.mp q; omega
    refine ⟨rfl, ⟨mc + 1, g, cap, va_up f (n - 1) none, ?_, ?_, ?_, hcp, h4, ?_, ?_⟩, (Fr.o.tr Fr.o).tr Fr.a⟩
    · rw [hu_n (kd_nk (by omega)), hu_s, arA_s hg, List.length_eraseIdx, if_pos (by omega), hl]
      rfl
    · rw [arA_s hg]
      exact hu_s
    · rw [List.length_eraseIdx, if_pos (by omega)]
      omega
    · intro x hx
      rw [List.length_eraseIdx, if_pos (by omega)] at hx
      rw [getD_era, if_pos (by omega)]
      unfold va_up
      rw [if_neg (by omega)]
      exact h5 x (by omega)
    · intro g1 hg1
      rw [hu_n (kd_ng (by omega)), hu_n (kd_nk (by omega)), hu_n (kd_nk (by omega))]
      exact h6 g1 hg1
  have hjn : j < n - 1 := by
    rcases Nat.lt_or_ge j (n - 1) with q | q
    · exact q
    · exact absurd (nI_le q (by omega)) c_19
  refine V_aload_n X dJx4a65c_fastRemove_b59b0_22 rfl rfl ?_
  refine V_iload_n X dJx4a65c_fastRemove_b59b0_23 rfl ?_
  refine V_iconst (v := 1) X dJx4a65c_fastRemove_b59b0_24 (by decide) ?_
  refine V_iadd X dJx4a65c_fastRemove_b59b0_25 ?_
  rw [nI_1]
  refine V_aload_n X dJx4a65c_fastRemove_b59b0_26 rfl rfl ?_
  refine V_iload_n X dJx4a65c_fastRemove_b59b0_27 rfl ?_
  refine V_iload_n X dJx4a65c_fastRemove_b59b0_28 rfl ?_
  refine V_iload_n X dJx4a65c_fastRemove_b59b0_29 rfl ?_
  refine V_isub X dJx4a65c_fastRemove_b59b0_30 ?_
  rw [pk_sub (by omega)]
  refine V_copy X dJx4a65c_fastRemove_b59b0_31 (inA2 57 rfl rfl) ((hu_n (kd_nk (by omega))).trans h2) (ro_k (by omega)) ((hu_n (kd_nk (by omega))).trans h2) (ro_k (by omega)) (nI_pos (by omega)) (nI_pos (by omega)) (nI_pos (by omega)) (by rw [nI_clamp (by omega), nI_clamp (by omega)]; omega) (by rw [nI_clamp (by omega), nI_clamp (by omega)]; omega) ?_ (Nat.le_of_ble_eq_true rfl) (Nat.le_of_ble_eq_true rfl) ?_
  · intro x hx y hy
    rw [nI_clamp (by omega)] at hx hy
    rw [h5 _ (by omega)] at hy
    cases hy
    have hm : L.getD (j + 1 + x) 0 ∈ L := by
      rw [List.getD_eq_getElem?_getD, List.getElem?_eq_getElem (by omega)]
      exact List.getElem_mem _
    exact (hel _ hm).kept (hu_n ((hel _ hm).nl h1))
  rw [nI_clamp (by omega), nI_clamp (by omega), nI_clamp (by omega)]
  refine V_aload_n X dJx4a65c_fastRemove_b59b0_34 rfl rfl ?_
  refine V_aload_n X dJx4a65c_fastRemove_b59b0_35 rfl rfl ?_
  refine V_iload_n X dJx4a65c_fastRemove_b59b0_36 rfl ?_
  refine V_dup_x1 X dJx4a65c_fastRemove_b59b0_37 rfl rfl ?_
  apply V_put X dJx4a65c_fastRemove_b59b0_38 fk_Jx4a65c_48
  · exact (hu_n (kd_nk (by omega))).trans hu_s
  · exact ro_k hk
  · exact Nat.le_of_ble_eq_true rfl
  · exact rfl
  · exact rfl
  refine V_null X dJx4a65c_fastRemove_b59b0_41 ?_
  apply V_aastoreN (t := 3) X dJx4a65c_fastRemove_b59b0_42 (fun _ => rfl)
  · exact (hu_n (kd_nk (by omega))).trans hu_s
  · exact ro_k (by omega)
  · exact vp_in_nI2 (by omega) (by omega)
  rw [nI_clamp (by omega)]
  refine V_vret X dJx4a65c_fastRemove_b59b0_43 ?_ ?_ ?_
  · dsimp only [rmm]; omega
  · dsimp only [rmm]; omega
  have hg : g ≠ 0 := fun q => by have := h4.mp q; omega
  refine ⟨rfl, ⟨mc + 1, g, cap, va_up (va_cpy f f (j + 1) j (n - 1 - j)) (n - 1) none, ?_, ?_, ?_, hcp, h4, ?_, ?_⟩, ((Fr.o.tr Fr.a).tr Fr.o).tr Fr.a⟩
  · rw [hu_n (kd_nk (by omega)), hu_s, arA_s hg, List.length_eraseIdx, if_pos (by omega), hl]
    rfl
  · rw [arA_s hg]
    exact hu_s
  · rw [List.length_eraseIdx, if_pos (by omega)]
    omega
  · intro x hx
    rw [List.length_eraseIdx, if_pos (by omega)] at hx
    rw [getD_era]
    unfold va_up
    rw [if_neg (by omega)]
    by_cases hxj : x < j
    · rw [if_pos hxj, pk_cpy_out (Or.inl hxj)]
      exact h5 x (by omega)
    · rw [if_neg hxj, pk_cpy_in (by omega) (by omega), show j + 1 + (x - j) = x + 1 by omega]
      exact h5 (x + 1) (by omega)
  · intro g1 hg1
    rw [hu_n (kd_ng (by omega)), hu_n (kd_nk (by omega)), hu_n (kd_ng (by omega)), hu_n (kd_nk (by omega))]
    exact h6 g1 hg1
set_option maxRecDepth 100000 in
set_option maxHeartbeats 4000000 in
theorem c_remove (l : Launch) {I : aH} {k i j : Nat} {L : List Nat} (hk : k ≠ 0) (hL : LL I k i L) (hn : L.length < 2 ^ 26) (hj : j < L.length) (hel : ∀ a ∈ L, EO I a) : AM l yJx4a65c_remove_915e3 cJx4a65c_remove_915e3 4 (some (.object "java/lang/Object")) (rmm 2 0 0 83) [.ref (kd k i 0), .int (nI j)] I (fun r I' => r = some (.ref (L.getD j 0)) ∧ LL I' k i (L.eraseIdx j) ∧ Fr k i I I') := by
  obtain ⟨mc, g, cap, f, h1, h2, h3, hcp, h4, h5, h6⟩ := hL
  have hg : g ≠ 0 := fun q => by have := h4.mp q; omega
  rw [arA_s hg] at h1 h2
  refine AM_of RJx4a65c (by decide) rfl [some (.ref (kd k i 0)), some (.int (nI j)), none, none] rfl (Nat.le_of_ble_eq_true rfl) (fun Z X hNm => ?_)
  refine V_iload_n X dJx4a65c_remove_915e3_0 rfl ?_
  refine V_aload_n X dJx4a65c_remove_915e3_1 rfl rfl ?_
  apply V_get X dJx4a65c_remove_915e3_2 fk_Jx4a65c_48
  · first | assumption | exact hu_s | exact (hu_n (by first | exact kd_nk (by decide) | exact kd_ni (by omega) | exact kd_ng (by omega) | assumption | exact Ne.symm (by assumption))).trans (by first | assumption | exact hu_s | exact (hu_n (by first | exact kd_nk (by decide) | exact kd_ni (by omega) | exact kd_ng (by omega) | assumption | exact Ne.symm (by assumption))).trans (by first | assumption | exact hu_s | exact (hu_n (by first | exact kd_nk (by decide) | exact kd_ni (by omega) | exact kd_ng (by omega) | assumption | exact Ne.symm (by assumption))).trans (by first | assumption | exact hu_s)))
  · exact rfl
  refine V_callS2 X dJx4a65c_remove_915e3_5 mk_Jx4a65c_118 st_J15_checkIndex_7cf53 (c_ci l hj (by omega)) (Nat.le_of_ble_eq_true rfl) ⟨Nat.le_of_ble_eq_true rfl, Nat.le_of_ble_eq_true rfl⟩ ?_ ?_
  · exact ⟨by dsimp only [rmm]; omega, by dsimp only [rmm]; omega⟩
  rintro r I1 ⟨rfl, rfl⟩
  refine V_pop X dJx4a65c_remove_915e3_8 rfl ?_
  refine V_aload_n X dJx4a65c_remove_915e3_9 rfl rfl ?_
  apply V_get X dJx4a65c_remove_915e3_10 fk_Jx4a65c_9
  · first | assumption | exact hu_s | exact (hu_n (by first | exact kd_nk (by decide) | exact kd_ni (by omega) | exact kd_ng (by omega) | assumption | exact Ne.symm (by assumption))).trans (by first | assumption | exact hu_s | exact (hu_n (by first | exact kd_nk (by decide) | exact kd_ni (by omega) | exact kd_ng (by omega) | assumption | exact Ne.symm (by assumption))).trans (by first | assumption | exact hu_s | exact (hu_n (by first | exact kd_nk (by decide) | exact kd_ni (by omega) | exact kd_ng (by omega) | assumption | exact Ne.symm (by assumption))).trans (by first | assumption | exact hu_s)))
  · exact rfl
  refine V_astore_n X dJx4a65c_remove_915e3_13 (by decide) rfl rfl ?_
  refine V_aload_n X dJx4a65c_remove_915e3_14 rfl rfl ?_
  refine V_iload_n X dJx4a65c_remove_915e3_15 rfl ?_
  apply V_aaload (t := 3) X dJx4a65c_remove_915e3_16 (fun _ => rfl)
  · exact h2
  · exact vp_in_nI2 (by omega) (by omega)
  rw [nI_clamp (by omega), h5 j hj]
  refine V_astore_n X dJx4a65c_remove_915e3_17 (by decide) rfl rfl ?_
  refine V_aload_n X dJx4a65c_remove_915e3_18 rfl rfl ?_
  refine V_aload_n X dJx4a65c_remove_915e3_19 rfl rfl ?_
  refine V_iload_n X dJx4a65c_remove_915e3_20 rfl ?_
  apply V_callV2 X dJx4a65c_remove_915e3_21 mk_Jx4a65c_144 iv_Jx4a65c_fastRemove_b59b0 (c_fastRemove l hk h1 h2 rfl h3 hcp h4 h5 h6 hj hel)
  · first | assumption | exact hu_s | exact (hu_n (by first | exact kd_nk (by decide) | exact kd_ni (by omega) | exact kd_ng (by omega) | assumption | exact Ne.symm (by assumption))).trans (by first | assumption | exact hu_s | exact (hu_n (by first | exact kd_nk (by decide) | exact kd_ni (by omega) | exact kd_ng (by omega) | assumption | exact Ne.symm (by assumption))).trans (by first | assumption | exact hu_s | exact (hu_n (by first | exact kd_nk (by decide) | exact kd_ni (by omega) | exact kd_ng (by omega) | assumption | exact Ne.symm (by assumption))).trans (by first | assumption | exact hu_s)))
  · exact rfl
  · exact Nat.le_of_ble_eq_true rfl
  · exact ⟨Nat.le_of_ble_eq_true rfl, Nat.le_of_ble_eq_true rfl⟩
  · exact ⟨by dsimp only [rmm]; omega, by dsimp only [rmm]; omega⟩
  rintro r I1 ⟨rfl, hp1, hp2⟩
  refine V_aload_n X dJx4a65c_remove_915e3_24 rfl rfl ?_
  refine V_aret X dJx4a65c_remove_915e3_25 (Or.inl ⟨_, rfl⟩) rfl ?_ ?_ ?_
  · dsimp only [rmm]; omega
  · dsimp only [rmm]; omega
  exact ⟨rfl, hp1, hp2⟩
set_option maxRecDepth 100000 in
set_option maxHeartbeats 4000000 in
theorem clear_loop {l : Launch} {Z : Zt} {I : aH} {k i g cap n : Nat} {mc : Int32} (hk : k ≠ 0) (X : Fx Z l (rmm 0 0 0 0) cJx4a65c_clear_da8c8 4 RJx4a65c none (fun r I' => r = none ∧ LL I' k i [] ∧ Fr k i I I')) (h3 : n ≤ cap) (hcp : cap < 2 ^ 28) (h4 : g = 0 ↔ cap = 0) : ∀ (m x : Nat) (J : aH) (f : Nat → Option Nat), n - x < m → x ≤ n → J (kd k i 0) = some (.inr (0, [.int mc, .ref (arA k i g), .int 0])) → J (arA k i g) = some (.inl (3, aR cap f)) → (∀ g', g < g' → J (kd (k + 1) i g') = none) → Fr k i I J → V Z 4 J [some (.ref (kd k i 0)), some (.ref (arA k i g)), some (.int (nI n)), some (.int (nI x))] [] 0 0 27
  | 0, _, _, _, h, _, _, _, _, _ => absurd h (Nat.not_lt_zero _)
  | m + 1, x, J, f, hm, hx, h1, h2, h6, hF => by
    refine V_iload_n X dJx4a65c_clear_da8c8_27 rfl ?_
    refine V_iload_n X dJx4a65c_clear_da8c8_28 rfl ?_
    refine V_icmp_ge X dJx4a65c_clear_da8c8_29 42 (by decide) (fun c_29 => ?_) (fun c_29 => ?_)
    · refine V_vret X dJx4a65c_clear_da8c8_42 ?_ ?_ ?_
      · dsimp only [rmm]; omega
      · dsimp only [rmm]; omega
      refine ⟨rfl, ⟨mc, g, cap, f, h1, h2, Nat.zero_le _, hcp, h4, fun j hj => by simp at hj, h6⟩, hF⟩
    have hlt : x < n := by
      rcases Nat.lt_or_ge x n with q | q
      · exact q
      · exact absurd (nI_le q (by omega)) c_29
    have hg : g ≠ 0 := fun q => by have := h4.mp q; omega
    refine V_aload_n X dJx4a65c_clear_da8c8_32 rfl rfl ?_
    refine V_iload_n X dJx4a65c_clear_da8c8_33 rfl ?_
    refine V_null X dJx4a65c_clear_da8c8_34 ?_
    apply V_aastoreN (t := 3) X dJx4a65c_clear_da8c8_35 (fun _ => rfl)
    · exact h2
    · rw [arA_s hg]; exact ro_k (by omega)
    · exact vp_in_nI2 (by omega) (by omega)
    rw [nI_clamp (by omega)]
    refine V_iinc X dJx4a65c_clear_da8c8_36 rfl (by decide) rfl (nI (x + 1)) (nI_1 x) ?_
    refine V_goto X dJx4a65c_clear_da8c8_39 27 (by decide) ?_
    refine clear_loop (mc := mc) hk X h3 hcp h4 m (x + 1) _ (va_up f x none) (by omega) hlt ?_ ?_ ?_ (hF.tr ?_)
    · rw [hu_n (by rw [arA_s hg]; exact kd_nk (by omega))]; exact h1
    · exact hu_s
    · intro g1 hg1
      rw [arA_s hg, hu_n (kd_ng (by omega))]
      exact h6 g1 hg1
    · rw [arA_s hg]; exact Fr.a
set_option maxRecDepth 100000 in
set_option maxHeartbeats 4000000 in
theorem c_clear (l : Launch) {I : aH} {k i : Nat} {L : List Nat} (hk : k ≠ 0) (hL : LL I k i L) (hn : L.length < 2 ^ 26) : AM l yJx4a65c_clear_da8c8 cJx4a65c_clear_da8c8 4 none (rmm 0 0 0 0) [.ref (kd k i 0)] I (fun r I' => r = none ∧ LL I' k i [] ∧ Fr k i I I') := by
  obtain ⟨mc, g, cap, f, h1, h2, h3, hcp, h4, h5, h6⟩ := hL
  refine AM_of RJx4a65c (by decide) rfl [some (.ref (kd k i 0)), none, none, none] rfl (Nat.le_of_ble_eq_true rfl) (fun Z X hNm => ?_)
  refine V_aload_n X dJx4a65c_clear_da8c8_0 rfl rfl ?_
  refine V_dup X dJx4a65c_clear_da8c8_1 rfl ?_
  apply V_get X dJx4a65c_clear_da8c8_2 fk_Jx4a65c_63
  · first | assumption | exact hu_s | exact (hu_n (by first | exact kd_nk (by decide) | exact kd_ni (by omega) | exact kd_ng (by omega) | assumption | exact Ne.symm (by assumption))).trans (by first | assumption | exact hu_s | exact (hu_n (by first | exact kd_nk (by decide) | exact kd_ni (by omega) | exact kd_ng (by omega) | assumption | exact Ne.symm (by assumption))).trans (by first | assumption | exact hu_s | exact (hu_n (by first | exact kd_nk (by decide) | exact kd_ni (by omega) | exact kd_ng (by omega) | assumption | exact Ne.symm (by assumption))).trans (by first | assumption | exact hu_s)))
  · exact rfl
  refine V_iconst (v := 1) X dJx4a65c_clear_da8c8_5 (by decide) ?_
  refine V_iadd X dJx4a65c_clear_da8c8_6 ?_
  apply V_put X dJx4a65c_clear_da8c8_7 fk_Jx4a65c_63
  · first | assumption | exact hu_s | exact (hu_n (by first | exact kd_nk (by decide) | exact kd_ni (by omega) | exact kd_ng (by omega) | assumption | exact Ne.symm (by assumption))).trans (by first | assumption | exact hu_s | exact (hu_n (by first | exact kd_nk (by decide) | exact kd_ni (by omega) | exact kd_ng (by omega) | assumption | exact Ne.symm (by assumption))).trans (by first | assumption | exact hu_s | exact (hu_n (by first | exact kd_nk (by decide) | exact kd_ni (by omega) | exact kd_ng (by omega) | assumption | exact Ne.symm (by assumption))).trans (by first | assumption | exact hu_s)))
  · exact ro_k hk
  · exact Nat.le_of_ble_eq_true rfl
  · exact rfl
  · exact rfl
  refine V_aload_n X dJx4a65c_clear_da8c8_10 rfl rfl ?_
  apply V_get X dJx4a65c_clear_da8c8_11 fk_Jx4a65c_9
  · exact hu_s
  · exact rfl
  refine V_astore_n X dJx4a65c_clear_da8c8_14 (by decide) rfl rfl ?_
  refine V_aload_n X dJx4a65c_clear_da8c8_15 rfl rfl ?_
  apply V_get X dJx4a65c_clear_da8c8_16 fk_Jx4a65c_48
  · exact hu_s
  · exact rfl
  refine V_istore_n X dJx4a65c_clear_da8c8_19 (by decide) rfl ?_
  refine V_aload_n X dJx4a65c_clear_da8c8_20 rfl rfl ?_
  refine V_iconst (v := 0) X dJx4a65c_clear_da8c8_21 (by decide) ?_
  refine V_dup_x1 X dJx4a65c_clear_da8c8_22 rfl rfl ?_
  apply V_put X dJx4a65c_clear_da8c8_23 fk_Jx4a65c_48
  · exact hu_s
  · exact ro_k hk
  · exact Nat.le_of_ble_eq_true rfl
  · exact rfl
  · exact rfl
  refine V_istore_n X dJx4a65c_clear_da8c8_26 (by decide) rfl ?_
  refine clear_loop (mc := mc + 1) (cap := cap) hk X h3 hcp h4 (L.length + 1) 0 _ f (by omega) (Nat.zero_le _) hu_s ((hu_n (arA_ne hk)).trans ((hu_n (arA_ne hk)).trans h2)) (fun g1 hg1 => (hu_n (kd_nk (by omega))).trans ((hu_n (kd_nk (by omega))).trans (h6 g1 hg1))) (Fr.o.tr Fr.o)
