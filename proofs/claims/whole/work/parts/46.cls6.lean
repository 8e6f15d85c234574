theorem k_gti (l : Launch) {S : St} {J : aH} {k i q N y : Nat} (h : LL J k i (rg q N)) (hN : N < 2 ^ 29) (hk : kO k = false) (hk1 : kO (k + 1) = false) (hy : y < N) : AM l yJx4a65c_get_915e3 cJx4a65c_get_915e3 2 (some (.object "java/lang/Object")) (rmm 2 0 0 43) [.ref (kd k i 0), .int (nI y)] (ovc S J) (fun r I' => r = some (.ref (kd q y 0)) ∧ I' = ovc S J) :=
  k_get l (h.ov hk hk1) (by rw [nnI (by omega), rg_len]; exact hy) (by rw [nnI (by omega)]) (by rw [rg_len]; omega) (by rw [nnI (by omega)]; exact rg_at hy)
theorem k_gtm (l : Launch) {S : St} {J : aH} {k i y : Nat} {f : Nat → Nat} {L : List Nat} (h : LL J k i (L.map f)) (hN : L.length < 2 ^ 29) (hk : kO k = false) (hk1 : kO (k + 1) = false) (hy : y < L.length) : AM l yJx4a65c_get_915e3 cJx4a65c_get_915e3 2 (some (.object "java/lang/Object")) (rmm 2 0 0 43) [.ref (kd k i 0), .int (nI y)] (ovc S J) (fun r I' => r = some (.ref (f (L.getD y 0))) ∧ I' = ovc S J) :=
  k_get l (h.ov hk hk1) (by rw [nnI (by omega), List.length_map]; exact hy) (by rw [nnI (by omega)]) (by rw [List.length_map]; omega) (by rw [nnI (by omega)]; exact map_at hy)
set_option maxRecDepth 100000 in
set_option maxHeartbeats 4000000 in
theorem cntS_loop {l : Launch} {Z : Zt} {S : St} {J : aH} {N : Nat} {s : Int32} (hs : isSes S s) (ow : OW S) (hN : N ≤ 20) (eN : nn (S.1 15 0) = N) (h3 : LL J 20 3 (rg 5 N)) (X : Fx Z l (rmm 3 0 0 64) cX8_countSubscriptions 5 RX8 (some .int) (fun r I' => r = some (.int (nI (cn (sbB S s) N))) ∧ I' = ovc S J)) : ∀ (m y : Nat) (acc : Int32) (o4 : Option Value), N - y < m → y ≤ N → acc = nI (cn (sbB S s) y) → (match o4 with | some (.long _) => False | some (.double _) => False | _ => True) → V Z 5 (ovc S J) [some (.ref rO), some (.ref (kd 4 (nn s) 0)), some (.int acc), some (.int (nI y)), o4] [] 0 0 4
  | 0, _, _, _, _, _, _, _ => absurd (by assumption) (Nat.not_lt_zero _)
  | m + 1, y, acc, o4, hm, hy, hacc, h4 => by
    refine V_iload_n X dX8_countSubscriptions_4 rfl ?_
    refine V_aload_n X dX8_countSubscriptions_5 rfl rfl ?_
    apply V_get X dX8_countSubscriptions_6 fk_X8_22
    · exact at_root
    · exact rfl
    apply V_callV0 X dX8_countSubscriptions_9 mk_X8_59 iv_Jx4a65c_size_8abf5 (k_size l (x := nI N) (h3.ov rfl rfl) (by rw [rg_len]))
    · exact ll_o (h3.ov rfl rfl)
    · exact rfl
    · exact Nat.le_of_ble_eq_true rfl
    · exact ⟨Nat.le_of_ble_eq_true rfl, Nat.le_of_ble_eq_true rfl⟩
    · exact ⟨by dsimp only [rmm]; omega, by dsimp only [rmm]; omega⟩
    rintro r I1 ⟨rfl, rfl⟩
    refine V_icmp_ge X dX8_countSubscriptions_12 58 (by decide) (fun c_12 => ?_) (fun c_12 => ?_)
    · have hx2 : y = N := by
        rcases Nat.lt_or_ge y (N) with z | z
        · exact absurd c_12 (nI_ge z (by omega))
        · omega
      refine V_iload_n X dX8_countSubscriptions_58 rfl ?_
      refine V_iret X dX8_countSubscriptions_59 ?_ ?_ ?_ ?_
      · exact rfl
      · dsimp only [rmm]; omega
      · dsimp only [rmm]; omega
      exact ⟨by rw [hacc, hx2], rfl⟩
    have hlt : y < N := by
      rcases Nat.lt_or_ge y (N) with z | z
      · exact z
      · exact absurd (nI_le z (by omega)) c_12
    refine V_aload_n X dX8_countSubscriptions_15 rfl rfl ?_
    apply V_get X dX8_countSubscriptions_16 fk_X8_22
    · exact at_root
    · exact rfl
    refine V_iload_n X dX8_countSubscriptions_19 rfl ?_
    apply V_callV1 X dX8_countSubscriptions_20 mk_X8_119 iv_Jx4a65c_get_915e3 (k_gti l h3 (by omega) rfl rfl hlt)
    · exact ll_o (h3.ov rfl rfl)
    · exact rfl
    · exact Nat.le_of_ble_eq_true rfl
    · exact ⟨Nat.le_of_ble_eq_true rfl, Nat.le_of_ble_eq_true rfl⟩
    · exact ⟨by dsimp only [rmm]; omega, by dsimp only [rmm]; omega⟩
    rintro r I1 ⟨rfl, rfl⟩
    apply V_cast (ci := 8) X dX8_countSubscriptions_23 cl_X8_138
    · exact rfl
    · exact at_sub (by omega)
    refine V_astore X dX8_countSubscriptions_26 (by decide) rfl rfl ?_
    refine V_aload X dX8_countSubscriptions_28 rfl rfl ?_
    apply V_get X dX8_countSubscriptions_30 fk_X8_319
    · exact at_sub (by omega)
    · exact rfl
    refine V_if_ne X dX8_countSubscriptions_33 52 (by decide) (fun c_33 => ?_) (fun c_33 => ?_)
    · refine V_iinc X dX8_countSubscriptions_52 rfl (by decide) rfl (nI (y + 1)) (nI_1 y) ?_
      refine V_goto X dX8_countSubscriptions_55 4 (by decide) ?_
      refine cntS_loop hs ow hN eN h3 X m (y + 1) _ _ (by omega) (by omega) ?_ trivial
      rw [cn_f (fun q => (sbB_iff.mp q).1 (gb_0 c_33)), hacc]
    refine V_aload_n X dX8_countSubscriptions_36 rfl rfl ?_
    refine V_ifnull X dX8_countSubscriptions_37 ?_
    refine V_aload X dX8_countSubscriptions_40 rfl rfl ?_
    apply V_get X dX8_countSubscriptions_42 fk_X8_175
    · exact at_sub (by omega)
    · exact rfl
    refine V_aload_n X dX8_countSubscriptions_45 rfl rfl ?_
    refine V_acmp_ne X dX8_countSubscriptions_46 52 (by decide) (Or.inl (ne_ses (ow.1 _ (by omega)).2)) (Or.inl (ne_ses (ses_ix hs).2)) (fun c_46 => ?_) (fun c_46 => ?_)
    · refine V_iinc X dX8_countSubscriptions_52 rfl (by decide) rfl (nI (y + 1)) (nI_1 y) ?_
      refine V_goto X dX8_countSubscriptions_55 4 (by decide) ?_
      refine cntS_loop hs ow hN eN h3 X m (y + 1) _ _ (by omega) (by omega) ?_ trivial
      rw [cn_f (fun q => c_46 (own_ne (sbB_iff.mp q).2)), hacc]
    refine V_iinc X dX8_countSubscriptions_49 rfl (by decide) rfl _ rfl ?_
    refine V_iinc X dX8_countSubscriptions_52 rfl (by decide) rfl (nI (y + 1)) (nI_1 y) ?_
    refine V_goto X dX8_countSubscriptions_55 4 (by decide) ?_
    refine cntS_loop hs ow hN eN h3 X m (y + 1) _ _ (by omega) (by omega) ?_ trivial
    rw [cn_t (sbB_iff.mpr ⟨gb_1 c_33, own_eq (ow.1 _ (by omega)).1 (ses_ix hs).1 c_46⟩), hacc]; exact nI_1 _
set_option maxRecDepth 100000 in
set_option maxHeartbeats 4000000 in
theorem k_cntS (l : Launch) {S : St} {J : aH} {s : Int32} (hs : isSes S s) (ow : OW S) (c : CT S) (m : ML S J) : AM l yX8_countSubscriptions cX8_countSubscriptions 5 (some .int) (rmm 3 0 0 64) [.ref rO, .ref (kd 4 (nn s) 0)] (ovc S J) (fun r I' => r = some (.int (nI (cn (sbB S s) (nn (S.1 15 0))))) ∧ I' = ovc S J) := by
  refine AM_of RX8 (by decide) rfl [some (.ref rO), some (.ref (kd 4 (nn s) 0)), none, none, none] rfl (Nat.le_of_ble_eq_true rfl) (fun Z X hNm => ?_)
  refine V_iconst (v := 0) X dX8_countSubscriptions_0 (by decide) ?_
  refine V_istore_n X dX8_countSubscriptions_1 (by decide) rfl ?_
  refine V_iconst (v := 0) X dX8_countSubscriptions_2 (by decide) ?_
  refine V_istore_n X dX8_countSubscriptions_3 (by decide) rfl ?_
  exact cntS_loop hs ow (ct_nn c.2.2.2.1 (by decide)).1 rfl m.2.2.2.1 X (nn (S.1 15 0) + 1) 0 0 none (by omega) (Nat.zero_le _) rfl trivial
set_option maxRecDepth 100000 in
set_option maxHeartbeats 4000000 in
theorem cntA_loop {l : Launch} {Z : Zt} {S : St} {J : aH} {N : Nat}  (hN : N ≤ 20) (eN : nn (S.1 15 0) = N) (h3 : LL J 20 3 (rg 5 N)) (X : Fx Z l (rmm 3 0 0 64) cX8_countSubscriptions 5 RX8 (some .int) (fun r I' => r = some (.int (nI (cn (oB S) N))) ∧ I' = ovc S J)) : ∀ (m y : Nat) (acc : Int32) (o4 : Option Value), N - y < m → y ≤ N → acc = nI (cn (oB S) y) → (match o4 with | some (.long _) => False | some (.double _) => False | _ => True) → V Z 5 (ovc S J) [some (.ref rO), some .null, some (.int acc), some (.int (nI y)), o4] [] 0 0 4
  | 0, _, _, _, _, _, _, _ => absurd (by assumption) (Nat.not_lt_zero _)
  | m + 1, y, acc, o4, hm, hy, hacc, h4 => by
    refine V_iload_n X dX8_countSubscriptions_4 rfl ?_
    refine V_aload_n X dX8_countSubscriptions_5 rfl rfl ?_
    apply V_get X dX8_countSubscriptions_6 fk_X8_22
    · exact at_root
    · exact rfl
    apply V_callV0 X dX8_countSubscriptions_9 mk_X8_59 iv_Jx4a65c_size_8abf5 (k_size l (x := nI N) (h3.ov rfl rfl) (by rw [rg_len]))
    · exact ll_o (h3.ov rfl rfl)
    · exact rfl
    · exact Nat.le_of_ble_eq_true rfl
    · exact ⟨Nat.le_of_ble_eq_true rfl, Nat.le_of_ble_eq_true rfl⟩
    · exact ⟨by dsimp only [rmm]; omega, by dsimp only [rmm]; omega⟩
    rintro r I1 ⟨rfl, rfl⟩
    refine V_icmp_ge X dX8_countSubscriptions_12 58 (by decide) (fun c_12 => ?_) (fun c_12 => ?_)
    · have hx2 : y = N := by
        rcases Nat.lt_or_ge y (N) with z | z
        · exact absurd c_12 (nI_ge z (by omega))
        · omega
      refine V_iload_n X dX8_countSubscriptions_58 rfl ?_
      refine V_iret X dX8_countSubscriptions_59 ?_ ?_ ?_ ?_
      · exact rfl
      · dsimp only [rmm]; omega
      · dsimp only [rmm]; omega
      exact ⟨by rw [hacc, hx2], rfl⟩
    have hlt : y < N := by
      rcases Nat.lt_or_ge y (N) with z | z
      · exact z
      · exact absurd (nI_le z (by omega)) c_12
    refine V_aload_n X dX8_countSubscriptions_15 rfl rfl ?_
    apply V_get X dX8_countSubscriptions_16 fk_X8_22
    · exact at_root
    · exact rfl
    refine V_iload_n X dX8_countSubscriptions_19 rfl ?_
    apply V_callV1 X dX8_countSubscriptions_20 mk_X8_119 iv_Jx4a65c_get_915e3 (k_gti l h3 (by omega) rfl rfl hlt)
    · exact ll_o (h3.ov rfl rfl)
    · exact rfl
    · exact Nat.le_of_ble_eq_true rfl
    · exact ⟨Nat.le_of_ble_eq_true rfl, Nat.le_of_ble_eq_true rfl⟩
    · exact ⟨by dsimp only [rmm]; omega, by dsimp only [rmm]; omega⟩
    rintro r I1 ⟨rfl, rfl⟩
    apply V_cast (ci := 8) X dX8_countSubscriptions_23 cl_X8_138
    · exact rfl
    · exact at_sub (by omega)
    refine V_astore X dX8_countSubscriptions_26 (by decide) rfl rfl ?_
    refine V_aload X dX8_countSubscriptions_28 rfl rfl ?_
    apply V_get X dX8_countSubscriptions_30 fk_X8_319
    · exact at_sub (by omega)
    · exact rfl
    refine V_if_ne X dX8_countSubscriptions_33 52 (by decide) (fun c_33 => ?_) (fun c_33 => ?_)
    · refine V_iinc X dX8_countSubscriptions_52 rfl (by decide) rfl (nI (y + 1)) (nI_1 y) ?_
      refine V_goto X dX8_countSubscriptions_55 4 (by decide) ?_
      refine cntA_loop hN eN h3 X m (y + 1) _ _ (by omega) (by omega) ?_ trivial
      rw [cn_f (fun q => (oB_iff.mp q) (gb_0 c_33)), hacc]
    refine V_aload_n X dX8_countSubscriptions_36 rfl rfl ?_
    refine V_ifnullN X dX8_countSubscriptions_37 49 (by decide) ?_
    refine V_iinc X dX8_countSubscriptions_49 rfl (by decide) rfl _ rfl ?_
    refine V_iinc X dX8_countSubscriptions_52 rfl (by decide) rfl (nI (y + 1)) (nI_1 y) ?_
    refine V_goto X dX8_countSubscriptions_55 4 (by decide) ?_
    refine cntA_loop hN eN h3 X m (y + 1) _ _ (by omega) (by omega) ?_ trivial
    rw [cn_t (oB_iff.mpr (gb_1 c_33)), hacc]; exact nI_1 _
set_option maxRecDepth 100000 in
set_option maxHeartbeats 4000000 in
theorem k_cntA (l : Launch) {S : St} {J : aH}  (c : CT S) (m : ML S J) : AM l yX8_countSubscriptions cX8_countSubscriptions 5 (some .int) (rmm 3 0 0 64) [.ref rO, .null] (ovc S J) (fun r I' => r = some (.int (nI (cn (oB S) (nn (S.1 15 0))))) ∧ I' = ovc S J) := by
  refine AM_of RX8 (by decide) rfl [some (.ref rO), some .null, none, none, none] rfl (Nat.le_of_ble_eq_true rfl) (fun Z X hNm => ?_)
  refine V_iconst (v := 0) X dX8_countSubscriptions_0 (by decide) ?_
  refine V_istore_n X dX8_countSubscriptions_1 (by decide) rfl ?_
  refine V_iconst (v := 0) X dX8_countSubscriptions_2 (by decide) ?_
  refine V_istore_n X dX8_countSubscriptions_3 (by decide) rfl ?_
  exact cntA_loop (ct_nn c.2.2.2.1 (by decide)).1 rfl m.2.2.2.1 X (nn (S.1 15 0) + 1) 0 0 none (by omega) (Nat.zero_le _) rfl trivial
set_option maxRecDepth 100000 in
set_option maxHeartbeats 4000000 in
theorem cntO_loop {l : Launch} {Z : Zt} {S : St} {J : aH} {N : Nat} (hN : N ≤ 12) (eN : nn (S.1 8 0) = N) (h3 : LL J 20 2 (rg 4 N)) (X : Fx Z l (rmm 3 0 0 64) cX8_countOpenSessions 3 RX8 (some .int) (fun r I' => r = some (.int (nI (cn (oS S) N))) ∧ I' = ovc S J)) : ∀ (m y : Nat) (acc : Int32), N - y < m → y ≤ N → acc = nI (cn (oS S) y) → V Z 3 (ovc S J) [some (.ref rO), some (.int acc), some (.int (nI y))] [] 0 0 4
  | 0, _, _, _, _, _ => absurd (by assumption) (Nat.not_lt_zero _)
  | m + 1, y, acc, hm, hy, hacc => by
    refine V_iload_n X dX8_countOpenSessions_4 rfl ?_
    refine V_aload_n X dX8_countOpenSessions_5 rfl rfl ?_
    apply V_get X dX8_countOpenSessions_6 fk_X8_19
    · exact at_root
    · exact rfl
    apply V_callV0 X dX8_countOpenSessions_9 mk_X8_59 iv_Jx4a65c_size_8abf5 (k_size l (x := nI N) (h3.ov rfl rfl) (by rw [rg_len]))
    · exact ll_o (h3.ov rfl rfl)
    · exact rfl
    · exact Nat.le_of_ble_eq_true rfl
    · exact ⟨Nat.le_of_ble_eq_true rfl, Nat.le_of_ble_eq_true rfl⟩
    · exact ⟨by dsimp only [rmm]; omega, by dsimp only [rmm]; omega⟩
    rintro r I1 ⟨rfl, rfl⟩
    refine V_icmp_ge X dX8_countOpenSessions_12 42 (by decide) (fun c_12 => ?_) (fun c_12 => ?_)
    · have hx2 : y = N := by
        rcases Nat.lt_or_ge y (N) with z | z
        · exact absurd c_12 (nI_ge z (by omega))
        · omega
      refine V_iload_n X dX8_countOpenSessions_42 rfl ?_
      refine V_iret X dX8_countOpenSessions_43 ?_ ?_ ?_ ?_
      · exact rfl
      · dsimp only [rmm]; omega
      · dsimp only [rmm]; omega
      exact ⟨by rw [hacc, hx2], rfl⟩
    have hlt : y < N := by
      rcases Nat.lt_or_ge y (N) with z | z
      · exact z
      · exact absurd (nI_le z (by omega)) c_12
    refine V_aload_n X dX8_countOpenSessions_15 rfl rfl ?_
    apply V_get X dX8_countOpenSessions_16 fk_X8_19
    · exact at_root
    · exact rfl
    refine V_iload_n X dX8_countOpenSessions_19 rfl ?_
    apply V_callV1 X dX8_countOpenSessions_20 mk_X8_119 iv_Jx4a65c_get_915e3 (k_gti l h3 (by omega) rfl rfl hlt)
    · exact ll_o (h3.ov rfl rfl)
    · exact rfl
    · exact Nat.le_of_ble_eq_true rfl
    · exact ⟨Nat.le_of_ble_eq_true rfl, Nat.le_of_ble_eq_true rfl⟩
    · exact ⟨by dsimp only [rmm]; omega, by dsimp only [rmm]; omega⟩
    rintro r I1 ⟨rfl, rfl⟩
    apply V_cast (ci := 7) X dX8_countOpenSessions_23 cl_X8_95
    · exact rfl
    · exact at_ses (by omega)
    apply V_get X dX8_countOpenSessions_26 fk_X8_102
    · exact at_ses (by omega)
    · exact rfl
    refine V_iconst (v := 2) X dX8_countOpenSessions_29 (by decide) ?_
    refine V_icmp_eq X dX8_countOpenSessions_30 36 (by decide) (fun c_30 => ?_) (fun c_30 => ?_)
    · refine V_iinc X dX8_countOpenSessions_36 rfl (by decide) rfl (nI (y + 1)) (nI_1 y) ?_
      refine V_goto X dX8_countOpenSessions_39 4 (by decide) ?_
      refine cntO_loop hN eN h3 X m (y + 1) _ (by omega) (by omega) ?_
      rw [cn_f (fun q => (oS_iff.mp q) c_30), hacc]
    refine V_iinc X dX8_countOpenSessions_33 rfl (by decide) rfl _ rfl ?_
    refine V_iinc X dX8_countOpenSessions_36 rfl (by decide) rfl (nI (y + 1)) (nI_1 y) ?_
    refine V_goto X dX8_countOpenSessions_39 4 (by decide) ?_
    refine cntO_loop hN eN h3 X m (y + 1) _ (by omega) (by omega) ?_
    rw [cn_t (oS_iff.mpr c_30), hacc]; exact nI_1 _
set_option maxRecDepth 100000 in
set_option maxHeartbeats 4000000 in
theorem k_cntO (l : Launch) {S : St} {J : aH} (c : CT S) (m : ML S J) : AM l yX8_countOpenSessions cX8_countOpenSessions 3 (some .int) (rmm 3 0 0 64) [.ref rO] (ovc S J) (fun r I' => r = some (.int (nI (cn (oS S) (nn (S.1 8 0))))) ∧ I' = ovc S J) := by
  refine AM_of RX8 (by decide) rfl [some (.ref rO), none, none] rfl (Nat.le_of_ble_eq_true rfl) (fun Z X hNm => ?_)
  refine V_iconst (v := 0) X dX8_countOpenSessions_0 (by decide) ?_
  refine V_istore_n X dX8_countOpenSessions_1 (by decide) rfl ?_
  refine V_iconst (v := 0) X dX8_countOpenSessions_2 (by decide) ?_
  refine V_istore_n X dX8_countOpenSessions_3 (by decide) rfl ?_
  exact cntO_loop (ct_nn c.2.2.1 (by decide)).1 rfl m.2.2.1 X (nn (S.1 8 0) + 1) 0 0 (by omega) (Nat.zero_le _) rfl
set_option maxRecDepth 100000 in
set_option maxHeartbeats 4000000 in
theorem cntI_loop {l : Launch} {Z : Zt} {S : St} {J : aH} {N : Nat} (hN : N ≤ 60) (eN : nn (S.1 32 0) = N) (h3 : LL J 20 4 (rg 6 N)) (X : Fx Z l (rmm 3 0 0 64) cX8_countItems 3 RX8 (some .int) (fun r I' => r = some (.int (nI (cn (oI S) N))) ∧ I' = ovc S J)) : ∀ (m y : Nat) (acc : Int32), N - y < m → y ≤ N → acc = nI (cn (oI S) y) → V Z 3 (ovc S J) [some (.ref rO), some (.int acc), some (.int (nI y))] [] 0 0 4
  | 0, _, _, _, _, _ => absurd (by assumption) (Nat.not_lt_zero _)
  | m + 1, y, acc, hm, hy, hacc => by
    refine V_iload_n X dX8_countItems_4 rfl ?_
    refine V_aload_n X dX8_countItems_5 rfl rfl ?_
    apply V_get X dX8_countItems_6 fk_X8_25
    · exact at_root
    · exact rfl
    apply V_callV0 X dX8_countItems_9 mk_X8_59 iv_Jx4a65c_size_8abf5 (k_size l (x := nI N) (h3.ov rfl rfl) (by rw [rg_len]))
    · exact ll_o (h3.ov rfl rfl)
    · exact rfl
    · exact Nat.le_of_ble_eq_true rfl
    · exact ⟨Nat.le_of_ble_eq_true rfl, Nat.le_of_ble_eq_true rfl⟩
    · exact ⟨by dsimp only [rmm]; omega, by dsimp only [rmm]; omega⟩
    rintro r I1 ⟨rfl, rfl⟩
    refine V_icmp_ge X dX8_countItems_12 41 (by decide) (fun c_12 => ?_) (fun c_12 => ?_)
    · have hx2 : y = N := by
        rcases Nat.lt_or_ge y (N) with z | z
        · exact absurd c_12 (nI_ge z (by omega))
        · omega
      refine V_iload_n X dX8_countItems_41 rfl ?_
      refine V_iret X dX8_countItems_42 ?_ ?_ ?_ ?_
      · exact rfl
      · dsimp only [rmm]; omega
      · dsimp only [rmm]; omega
      exact ⟨by rw [hacc, hx2], rfl⟩
    have hlt : y < N := by
      rcases Nat.lt_or_ge y (N) with z | z
      · exact z
      · exact absurd (nI_le z (by omega)) c_12
    refine V_aload_n X dX8_countItems_15 rfl rfl ?_
    apply V_get X dX8_countItems_16 fk_X8_25
    · exact at_root
    · exact rfl
    refine V_iload_n X dX8_countItems_19 rfl ?_
    apply V_callV1 X dX8_countItems_20 mk_X8_119 iv_Jx4a65c_get_915e3 (k_gti l h3 (by omega) rfl rfl hlt)
    · exact ll_o (h3.ov rfl rfl)
    · exact rfl
    · exact Nat.le_of_ble_eq_true rfl
    · exact ⟨Nat.le_of_ble_eq_true rfl, Nat.le_of_ble_eq_true rfl⟩
    · exact ⟨by dsimp only [rmm]; omega, by dsimp only [rmm]; omega⟩
    rintro r I1 ⟨rfl, rfl⟩
    apply V_cast (ci := 2) X dX8_countItems_23 cl_X8_183
    · exact rfl
    · exact at_it (by omega)
    apply V_get X dX8_countItems_26 fk_X8_322
    · exact at_it (by omega)
    · exact rfl
    refine V_if_ne X dX8_countItems_29 35 (by decide) (fun c_29 => ?_) (fun c_29 => ?_)
    · refine V_iinc X dX8_countItems_35 rfl (by decide) rfl (nI (y + 1)) (nI_1 y) ?_
      refine V_goto X dX8_countItems_38 4 (by decide) ?_
      refine cntI_loop hN eN h3 X m (y + 1) _ (by omega) (by omega) ?_
      rw [cn_f (fun q => (oI_iff.mp q) (gb_0 c_29)), hacc]
    refine V_iinc X dX8_countItems_32 rfl (by decide) rfl _ rfl ?_
    refine V_iinc X dX8_countItems_35 rfl (by decide) rfl (nI (y + 1)) (nI_1 y) ?_
    refine V_goto X dX8_countItems_38 4 (by decide) ?_
    refine cntI_loop hN eN h3 X m (y + 1) _ (by omega) (by omega) ?_
    rw [cn_t (oI_iff.mpr (gb_1 c_29)), hacc]; exact nI_1 _
set_option maxRecDepth 100000 in
set_option maxHeartbeats 4000000 in
theorem k_cntI (l : Launch) {S : St} {J : aH} (c : CT S) (m : ML S J) : AM l yX8_countItems cX8_countItems 3 (some .int) (rmm 3 0 0 64) [.ref rO] (ovc S J) (fun r I' => r = some (.int (nI (cn (oI S) (nn (S.1 32 0))))) ∧ I' = ovc S J) := by
  refine AM_of RX8 (by decide) rfl [some (.ref rO), none, none] rfl (Nat.le_of_ble_eq_true rfl) (fun Z X hNm => ?_)
  refine V_iconst (v := 0) X dX8_countItems_0 (by decide) ?_
  refine V_istore_n X dX8_countItems_1 (by decide) rfl ?_
  refine V_iconst (v := 0) X dX8_countItems_2 (by decide) ?_
  refine V_istore_n X dX8_countItems_3 (by decide) rfl ?_
  exact cntI_loop (ct_nn c.2.2.2.2.1 (by decide)).1 rfl m.2.2.2.2.1 X (nn (S.1 32 0) + 1) 0 0 (by omega) (Nat.zero_le _) rfl
def qc (S : St) (i : Nat) : Nat := if S.1 40 i = 2 then nn (S.1 44 i) else 0
def enN (S : St) (b : Nat) : Nat := sumN (fun j => qc S ((itI S b).getD j 0)) (itI S b).length
/-- the queues' lists -/
def QL (S : St) (Q : Nat → List Nat) (J : aH) : Prop := ∀ i, i < nn (S.1 32 0) → LL J 28 i (quL Q i) ∧ (Q i).length = nn (S.1 44 i) ∧ sm (S.1 44 i) 8
theorem itI_lt {S : St} {b j : Nat} (h : j < (itI S b).length) : (itI S b).getD j 0 < nn (S.1 32 0) := (fl_mem.mp (getD_mem h)).1
theorem itI_len {S : St} {b : Nat} : (itI S b).length ≤ nn (S.1 32 0) := fl_len
theorem qc_le {S : St} {Q : Nat → List Nat} {J : aH} {i : Nat} (h : QL S Q J) (hi : i < nn (S.1 32 0)) : qc S i ≤ 8 := by
  have := (h i hi).2.2.2
  unfold qc
  split <;> omega
theorem sumN_bd {f : Nat → Nat} {b : Nat} : ∀ {n : Nat}, (∀ j, j < n → f j ≤ b) → sumN f n ≤ b * n
  | 0, _ => Nat.zero_le _
  | n + 1, h => by
    have := sumN_bd (f := f) (b := b) (n := n) (fun j hj => h j (by omega))
    have h2 := h n (by omega)
    rw [sumN, Nat.mul_succ]
    omega
theorem sumN_pos {f : Nat → Nat} : ∀ {n : Nat}, 0 < sumN f n ↔ ∃ j, j < n ∧ 0 < f j
  | 0 => ⟨fun h => absurd h (Nat.lt_irrefl _), fun ⟨_, h, _⟩ => absurd h (Nat.not_lt_zero _)⟩
  | n + 1 => by
    rw [sumN]
    constructor
    · intro h
      by_cases q : 0 < f n
      · exact ⟨n, by omega, q⟩
      · obtain ⟨j, h1, h2⟩ := sumN_pos.mp (show 0 < sumN f n by omega)
        exact ⟨j, by omega, h2⟩
    · rintro ⟨j, h1, h2⟩
      by_cases q : j = n
      · subst q
        omega
      · have := sumN_pos.mpr ⟨j, (show j < n by omega), h2⟩
        omega
theorem anyI_iff {S : St} {s : Int32} : ∀ {n : Nat}, anyI S s n = true ↔ ∃ i, i < n ∧ itP S s i
  | 0 => ⟨fun h => absurd h Bool.false_ne_true, fun ⟨_, h, _⟩ => absurd h (Nat.not_lt_zero _)⟩
  | n + 1 => by
    rw [anyI, Bool.or_eq_true, decide_eq_true_iff, anyI_iff]
    constructor
    · rintro (⟨i, h1, h2⟩ | h)
      · exact ⟨i, by omega, h2⟩
      · exact ⟨n, by omega, h⟩
    · rintro ⟨i, h1, h2⟩
      by_cases q : i = n
      · subst q
        exact Or.inr h2
      · exact Or.inl ⟨i, by omega, h2⟩
theorem enN_pos {S : St} {b : Nat} (h : ∀ i, i < nn (S.1 32 0) → sm (S.1 44 i) 8) : 0 < enN S b ↔ lft S (nI b) := by
  unfold enN lft
  rw [sumN_pos, anyI_iff]
  constructor
  · rintro ⟨j, h1, h2⟩
    have hm := fl_mem.mp (getD_mem h1)
    refine ⟨(itI S b).getD j 0, hm.1, ?_⟩
    obtain ⟨a1, a2⟩ := siB_iff.mp hm.2
    have hx : S.1 40 ((itI S b).getD j 0) = 2 ∧ 0 < nn (S.1 44 ((itI S b).getD j 0)) := by
      unfold qc at h2
      split at h2
      · rename_i e
        exact ⟨e, h2⟩
      · exact absurd h2 (Nat.lt_irrefl _)
    refine ⟨a1, a2, hx.1, fun q => ?_⟩
    have e : sm (S.1 44 ((itI S b).getD j 0)) 8 := h _ hm.1
    rw [e.1, fa_le, nI_toInt (by have := e.2; omega), i0] at q
    omega
  · rintro ⟨i, h1, a1, a2, a3, a4⟩
    have hm : i ∈ itI S b := fl_mem.mpr ⟨h1, siB_iff.mpr ⟨a1, a2⟩⟩
    obtain ⟨j, hj, e⟩ := List.getElem_of_mem hm
    refine ⟨j, hj, ?_⟩
    rw [List.getD_eq_getElem?_getD, List.getElem?_eq_getElem hj, e]
    show 0 < qc S i
    unfold qc
    rw [if_pos a3]
    exact sm_pos (h i h1) a4 (by decide)
set_option maxRecDepth 100000 in
set_option maxHeartbeats 4000000 in
theorem cntE_loop {l : Launch} {Z : Zt} {S : St} {Q : Nat → List Nat} {J : aH} {b : Nat} (hb : b < nn (S.1 15 0)) (h24 : LL J 24 b (itL S b)) (hQ : QL S Q J) (hn : nn (S.1 32 0) ≤ 60) (X : Fx Z l (rmm 3 0 0 64) cX7_countEntries 4 RX7 (some .int) (fun r I' => r = some (.int (nI (enN S b))) ∧ I' = ovc S J)) : ∀ (m y : Nat) (acc : Int32) (o3 : Option Value), (itI S b).length - y < m → y ≤ (itI S b).length → acc = nI (sumN (fun j => qc S ((itI S b).getD j 0)) y) → (match o3 with | some (.long _) => False | some (.double _) => False | _ => True) → V Z 4 (ovc S J) [some (.ref (kd 5 b 0)), some (.int acc), some (.int (nI y)), o3] [] 0 0 4
  | 0, _, _, _, _, _, _, _ => absurd (by assumption) (Nat.not_lt_zero _)
  | m + 1, y, acc, o3, hm, hy, hacc, h3 => by
    refine V_iload_n X dX7_countEntries_4 rfl ?_
    refine V_aload_n X dX7_countEntries_5 rfl rfl ?_
    apply V_get X dX7_countEntries_6 fk_X7_10
    · exact at_sub (by assumption)
    · exact rfl
    have hle := itI_len (S := S) (b := b)
    apply V_callV0 X dX7_countEntries_9 mk_X7_84 iv_Jx4a65c_size_8abf5 (k_size l (x := nI (itI S b).length) (h24.ov rfl rfl) (by rw [itL_len]))
    · exact ll_o (h24.ov rfl rfl)
    · exact rfl
    · exact Nat.le_of_ble_eq_true rfl
    · exact ⟨Nat.le_of_ble_eq_true rfl, Nat.le_of_ble_eq_true rfl⟩
    · exact ⟨by dsimp only [rmm]; omega, by dsimp only [rmm]; omega⟩
    rintro r I1 ⟨rfl, rfl⟩
    refine V_icmp_ge X dX7_countEntries_12 54 (by decide) (fun c_12 => ?_) (fun c_12 => ?_)
    · have hx2 : y = (itI S b).length := by
        rcases Nat.lt_or_ge y ((itI S b).length) with z | z
        · exact absurd c_12 (nI_ge z (by omega))
        · omega
      refine V_iload_n X dX7_countEntries_54 rfl ?_
      refine V_iret X dX7_countEntries_55 ?_ ?_ ?_ ?_
      · exact rfl
      · dsimp only [rmm]; omega
      · dsimp only [rmm]; omega
      exact ⟨by rw [hacc, hx2]; rfl, rfl⟩
    have hlt : y < (itI S b).length := by
      rcases Nat.lt_or_ge y ((itI S b).length) with z | z
      · exact z
      · exact absurd (nI_le z (by omega)) c_12
    refine V_aload_n X dX7_countEntries_15 rfl rfl ?_
    apply V_get X dX7_countEntries_16 fk_X7_10
    · exact at_sub (by assumption)
    · exact rfl
    refine V_iload_n X dX7_countEntries_19 rfl ?_
    apply V_callV1 X dX7_countEntries_20 mk_X7_87 iv_Jx4a65c_get_915e3 (k_gtm l h24 (by omega) rfl rfl hlt)
    · exact ll_o (h24.ov rfl rfl)
    · exact rfl
    · exact Nat.le_of_ble_eq_true rfl
    · exact ⟨Nat.le_of_ble_eq_true rfl, Nat.le_of_ble_eq_true rfl⟩
    · exact ⟨by dsimp only [rmm]; omega, by dsimp only [rmm]; omega⟩
    rintro r I1 ⟨rfl, rfl⟩
    have hi := itI_lt hlt
    have hq := hQ _ hi
    apply V_cast (ci := 2) X dX7_countEntries_23 cl_X7_91
    · exact rfl
    · exact at_it hi
    refine V_astore_n X dX7_countEntries_26 (by decide) rfl rfl ?_
    refine V_aload_n X dX7_countEntries_27 rfl rfl ?_
    apply V_get X dX7_countEntries_28 fk_X7_93
    · exact at_it (hi)
    · exact rfl
    refine V_iconst (v := 2) X dX7_countEntries_31 (by decide) ?_
    refine V_icmp_ne X dX7_countEntries_32 48 (by decide) (fun c_32 => ?_) (fun c_32 => ?_)
    · refine V_iinc X dX7_countEntries_48 rfl (by decide) rfl (nI (y + 1)) (nI_1 y) ?_
      refine V_goto X dX7_countEntries_51 4 (by decide) ?_
      refine cntE_loop hb h24 hQ hn X m (y + 1) _ _ (by omega) (by omega) ?_ trivial
      rw [sumN, hacc, show qc S ((itI S b).getD y 0) = 0 from if_neg c_32]; rfl
    refine V_iload_n X dX7_countEntries_35 rfl ?_
    refine V_aload_n X dX7_countEntries_36 rfl rfl ?_
    apply V_get X dX7_countEntries_37 fk_X7_96
    · exact at_it (hi)
    · exact rfl
    apply V_get X dX7_countEntries_40 fk_X7_100
    · exact at_qu (hi)
    · exact rfl
    apply V_callV0 X dX7_countEntries_43 mk_X7_84 iv_Jx4a65c_size_8abf5 (k_size l (x := nI (nn (S.1 44 ((itI S b).getD y 0)))) (hq.1.ov rfl rfl) (by rw [quL_len, hq.2.1]))
    · exact ll_o (hq.1.ov rfl rfl)
    · exact rfl
    · exact Nat.le_of_ble_eq_true rfl
    · exact ⟨Nat.le_of_ble_eq_true rfl, Nat.le_of_ble_eq_true rfl⟩
    · exact ⟨by dsimp only [rmm]; omega, by dsimp only [rmm]; omega⟩
    rintro r I1 ⟨rfl, rfl⟩
    refine V_iadd X dX7_countEntries_46 ?_
    refine V_istore_n X dX7_countEntries_47 (by decide) rfl ?_
    refine V_iinc X dX7_countEntries_48 rfl (by decide) rfl (nI (y + 1)) (nI_1 y) ?_
    refine V_goto X dX7_countEntries_51 4 (by decide) ?_
    refine cntE_loop hb h24 hQ hn X m (y + 1) _ _ (by omega) (by omega) ?_ trivial
    rw [sumN, hacc, show qc S ((itI S b).getD y 0) = nn (S.1 44 ((itI S b).getD y 0)) from if_pos c_32]; exact nI_add _ _
set_option maxRecDepth 100000 in
set_option maxHeartbeats 4000000 in
theorem k_cntE (l : Launch) {S : St} {Q : Nat → List Nat} {J : aH} {b : Nat} (hb : b < nn (S.1 15 0)) (h24 : LL J 24 b (itL S b)) (hQ : QL S Q J) (hn : nn (S.1 32 0) ≤ 60) : AM l yX7_countEntries cX7_countEntries 4 (some .int) (rmm 3 0 0 64) [.ref (kd 5 b 0)] (ovc S J) (fun r I' => r = some (.int (nI (enN S b))) ∧ I' = ovc S J) := by
  refine AM_of RX7 (by decide) rfl [some (.ref (kd 5 b 0)), none, none, none] rfl (Nat.le_of_ble_eq_true rfl) (fun Z X hNm => ?_)
  refine V_iconst (v := 0) X dX7_countEntries_0 (by decide) ?_
  refine V_istore_n X dX7_countEntries_1 (by decide) rfl ?_
  refine V_iconst (v := 0) X dX7_countEntries_2 (by decide) ?_
  refine V_istore_n X dX7_countEntries_3 (by decide) rfl ?_
  exact cntE_loop hb h24 hQ hn X ((itI S b).length + 1) 0 0 none (by omega) (Nat.zero_le _) rfl trivial
theorem enN_le {S : St} {Q : Nat → List Nat} {J : aH} {b : Nat} (hQ : QL S Q J) (hn : nn (S.1 32 0) ≤ 60) : enN S b ≤ 480 := by
  have := sumN_bd (f := fun j => qc S ((itI S b).getD j 0)) (b := 8) (n := (itI S b).length) (fun j hj => qc_le hQ (itI_lt hj))
  have h2 := itI_len (S := S) (b := b)
  unfold enN
  omega
theorem nI_pos0 {n : Nat} (h : n < 2 ^ 31) : nI n ≤ 0 ↔ ¬ 0 < n := by
  rw [fa_le, nI_toInt h, i0]
  omega
theorem rdy_iff {S : St} {Q : Nat → List Nat} {J : aH} {b : Nat} (hQ : QL S Q J) (hb : b < 2 ^ 31) : rdy S (nI b) ↔ 0 < enN S b ∧ ¬ S.1 23 b = 0 := by
  unfold rdy
  rw [nnI hb, enN_pos (fun i hi => (hQ i hi).2.2)]
set_option maxRecDepth 100000 in
set_option maxHeartbeats 4000000 in
theorem k_ready (l : Launch) {S : St} {Q : Nat → List Nat} {J : aH} {b : Nat} (hb : b < nn (S.1 15 0)) (h24 : LL J 24 b (itL S b)) (hQ : QL S Q J) (hn : nn (S.1 32 0) ≤ 60) (hb2 : b < 2 ^ 31) : AM l yX7_isReady cX7_isReady 1 (some .boolean) (rmm 4 0 0 87) [.ref (kd 5 b 0)] (ovc S J) (fun r I' => r = some (.int (if rdy S (nI b) then 1 else 0)) ∧ I' = ovc S J) := by
  refine AM_of RX7 (by decide) rfl [some (.ref (kd 5 b 0))] rfl (Nat.le_of_ble_eq_true rfl) (fun Z X hNm => ?_)
  refine V_aload_n X dX7_isReady_0 rfl rfl ?_
  apply V_get X dX7_isReady_1 fk_X7_19
  · exact at_sub (by assumption)
  · exact rfl
  refine V_if_eq X dX7_isReady_4 18 (by decide) (fun c_4 => ?_) (fun c_4 => ?_)
  · refine V_iconst (v := 0) X dX7_isReady_18 (by decide) ?_
    refine V_iret X dX7_isReady_19 ?_ ?_ ?_ ?_
    · exact rfl
    · dsimp only [rmm]; omega
    · dsimp only [rmm]; omega
    exact ⟨by rw [if_neg (fun q => ((rdy_iff hQ hb2).mp q).2 c_4)], rfl⟩
  refine V_aload_n X dX7_isReady_7 rfl rfl ?_
  apply V_callV0 X dX7_isReady_8 mk_X7_76 iv_X7_countEntries (k_cntE l hb h24 hQ hn)
  · exact at_sub (by assumption)
  · exact rfl
  · exact Nat.le_of_ble_eq_true rfl
  · exact ⟨Nat.le_of_ble_eq_true rfl, Nat.le_of_ble_eq_true rfl⟩
  · exact ⟨by dsimp only [rmm]; omega, by dsimp only [rmm]; omega⟩
  rintro r I1 ⟨rfl, rfl⟩
  refine V_if_le X dX7_isReady_11 18 (by decide) (fun c_11 => ?_) (fun c_11 => ?_)
  · refine V_iconst (v := 0) X dX7_isReady_18 (by decide) ?_
    refine V_iret X dX7_isReady_19 ?_ ?_ ?_ ?_
    · exact rfl
    · dsimp only [rmm]; omega
    · dsimp only [rmm]; omega
    have he := enN_le (b := b) hQ hn
    exact ⟨by rw [if_neg (fun q => (nI_pos0 (by omega)).mp c_11 ((rdy_iff hQ hb2).mp q).1)], rfl⟩
  refine V_iconst (v := 1) X dX7_isReady_14 (by decide) ?_
  refine V_goto X dX7_isReady_15 19 (by decide) ?_
  refine V_iret X dX7_isReady_19 ?_ ?_ ?_ ?_
  · exact rfl
  · dsimp only [rmm]; omega
  · dsimp only [rmm]; omega
  have he := enN_le (b := b) hQ hn
  exact ⟨by rw [if_pos ((rdy_iff hQ hb2).mpr ⟨Decidable.byContradiction fun q => c_11 ((nI_pos0 (by omega)).mpr q), c_4⟩)], rfl⟩
