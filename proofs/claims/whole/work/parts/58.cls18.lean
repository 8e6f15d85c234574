/-! keepMessage -/
theorem fst_kp {S : St} {b : Nat} (h : 0 < (kpI S b).length) : fstK S (nI b) (nn (S.1 48 0)) = (kpI S b).getD 0 0 := by
  obtain ⟨h1, h2, h3, h4⟩ := fstK_spec (S := S) (s := nI b) (nn (S.1 48 0))
  obtain ⟨a1, a2⟩ := kp_at h
  have hne : kpN S (nI b) (nn (S.1 48 0)) ≠ 0 := by
    rw [kp_len]
    unfold kpI at h
    omega
  have h5 := h4 hne
  rcases Nat.lt_trichotomy (fstK S (nI b) (nn (S.1 48 0))) ((kpI S b).getD 0 0) with q | q | q
  · exfalso
    obtain ⟨j, hj, ej⟩ := fl_ix (show fstK S (nI b) (nn (S.1 48 0)) ∈ kpI S b from fl_mem.mpr ⟨h5, kpB_iff.mpr (h3 h5)⟩)
    have ej2 : (kpI S b).getD j 0 = fstK S (nI b) (nn (S.1 48 0)) := ej
    rcases Nat.eq_zero_or_pos j with z | z
    · subst z
      omega
    · have h6 := fl_srt z hj
      have h7 : (kpI S b).getD 0 0 < (kpI S b).getD j 0 := h6
      omega
  · exact q
  · exact absurd a2 (h2 _ q)
theorem kpI_new {T : St} {b b' M : Nat} (h48 : nn (T.1 48 0) = M + 1) (h49 : T.1 49 M = nI b) (h54 : T.1 54 M = 0) : kpI (pa T 54 M 1) b' = kpI T b' ++ (if nI b = nI b' then [M] else []) := by
  unfold kpI
  show fl (kpB (pa T 54 M 1) (nI b')) (nn (T.1 48 0)) = _
  rw [h48, fl_s, fl_s]
  have e0 : ¬ kpB T (nI b') M = true := fun z => (kpB_iff.mp z).1 h54
  rw [if_neg e0, List.append_nil]
  congr 1
  · refine fl_cg fun x hx => Bool.eq_iff_iff.mpr ?_
    rw [kpB_iff, kpB_iff]
    show ¬ (pa T 54 M 1).1 54 x = 0 ∧ T.1 49 x = nI b' ↔ _
    rw [pa_i _ _ (by omega)]
  · by_cases q : nI b = nI b'
    · rw [if_pos q, if_pos (kpB_iff.mpr ⟨by rw [pa_s]; decide, by rw [pa_n _ _ (by decide), h49]; exact q⟩)]
    · rw [if_neg q, if_neg (fun z => q (by have := (kpB_iff.mp z).2; rw [pa_n _ _ (by decide), h49] at this; exact this))]
theorem kp5 {T : St} {b : Nat} (h : kpA T (nI b) ≤ 5) : (nI (kpA T (nI b)) = 5 ↔ ¬ nI (kpI T b).length < 5) ∧ (kpI T b).length = kpA T (nI b) := by
  have e : (kpI T b).length = kpA T (nI b) := (kp_len _).symm
  refine ⟨?_, e⟩
  rw [e]
  generalize kpA T (nI b) = n at *
  rw [show (5 : Int32) = nI 5 from rfl, nI_eq (by omega) (by decide), nI_ltI (by omega) (by decide)]
  omega
def KPP (T : St) (b : Nat) (J : aH) : Option Value → aH → Prop := fun r I' => r = none ∧ ∃ J', I' = ovc T J' ∧ Fr 26 b J J' ∧ LL J' 26 b (kpL T b)
set_option maxRecDepth 100000 in
set_option maxHeartbeats 4000000 in
theorem k_keep (l : Launch) {T : St} {J : aH} {b M : Nat} (hb : b < nn (T.1 15 0)) (h26 : LL J 26 b (kpL T b)) (h48 : nn (T.1 48 0) = M + 1) (h49 : T.1 49 M = nI b) (h54 : T.1 54 M = 0) (hk : kpA T (nI b) ≤ 5) : AM l yX7_keepMessage cX7_keepMessage 2 none (rmm 7 1 20 191) [.ref (kd 5 b 0), .ref (kd 8 M 0)] (ovc T J) (KPP (pa (mkK T b) 54 M 1) b J) := by
  have h5 := kp5 hk
  have hl5 := h5.2
  refine AM_of RX7 (by decide) rfl [some (.ref (kd 5 b 0)), some (.ref (kd 8 M 0))] rfl (Nat.le_of_ble_eq_true rfl) (fun Z X hNm => ?_)
  refine V_aload_n X dX7_keepMessage_0 rfl rfl ?_
  apply V_get X dX7_keepMessage_1 fk_X7_16
  · exact at_sub (hb)
  · exact rfl
  apply V_callV0 X dX7_keepMessage_4 mk_X7_84 iv_Jx4a65c_size_8abf5 (k_size l (x := nI (kpI T b).length) (h26.ov rfl rfl) (by rw [kpL_len]))
  · exact ll_o (h26.ov rfl rfl)
  · exact rfl
  · exact Nat.le_of_ble_eq_true rfl
  · exact ⟨Nat.le_of_ble_eq_true rfl, Nat.le_of_ble_eq_true rfl⟩
  · exact ⟨by dsimp only [rmm]; omega, by dsimp only [rmm]; omega⟩
  rintro r I1 ⟨rfl, rfl⟩
  refine V_iconst (v := 5) X dX7_keepMessage_7 (by decide) ?_
  refine V_icmp_lt X dX7_keepMessage_8 35 (by decide) (fun c_8 => ?_) (fun c_8 => ?_)
  · refine V_aload_n X dX7_keepMessage_35 rfl rfl ?_
    apply V_get X dX7_keepMessage_36 fk_X7_16
    · exact at_sub (hb)
    · exact rfl
    refine V_aload_n X dX7_keepMessage_39 rfl rfl ?_
    have hle : (kpL T b).length ≤ 5 := by rw [kpL_len]; omega
    apply V_callV1 X dX7_keepMessage_40 mk_X7_120 iv_Jx4a65c_add_9ea2d (c_add l (by decide) (h26.ov rfl rfl) (by rw [kpL_len]; omega) (fun a ha => by obtain ⟨x, hx, rfl⟩ := List.mem_map.mp ha; exact eo_ms (fl_mem.mp hx).1) (eo_ms (by omega)))
    · exact ll_o (h26.ov rfl rfl)
    · exact rfl
    · exact Nat.le_of_ble_eq_true rfl
    · exact ⟨Nat.le_of_ble_eq_true rfl, Nat.le_of_ble_eq_true rfl⟩
    · exact ⟨by dsimp only [rmm]; omega, by dsimp only [rmm]; omega⟩
    rintro r I1 ⟨rfl, hL, hF⟩
    obtain ⟨J2, rfl, hL2, hF2⟩ := LL_ov hF hL rfl rfl
    refine V_pop X dX7_keepMessage_43 rfl ?_
    refine V_aload_n X dX7_keepMessage_44 rfl rfl ?_
    refine V_iconst (v := 1) X dX7_keepMessage_45 (by decide) ?_
    refine P8_6 X dX7_keepMessage_46 fk_X7_118 (by show M < nn (T.1 48 0); omega) (Or.inr rfl) ?_
    refine V_vret X dX7_keepMessage_49 ?_ ?_ ?_
    · dsimp only [rmm]; omega
    · dsimp only [rmm]; omega
    refine ⟨rfl, J2, ?_, hF2, ?_⟩
    · rw [mkK, if_neg (fun z => (h5.1.mp z) c_8)]
    · rw [mkK, if_neg (fun z => (h5.1.mp z) c_8)]
      unfold kpL
      rw [kpI_new h48 h49 h54, if_pos rfl, List.map_append]
      exact hL2
  have hpos : 0 < (kpI T b).length := by
    rcases Nat.eq_zero_or_pos (kpI T b).length with z | z
    · rw [z] at c_8
      exact absurd (by decide) c_8
    · exact z
  refine V_aload_n X dX7_keepMessage_11 rfl rfl ?_
  apply V_get X dX7_keepMessage_12 fk_X7_16
  · exact at_sub (hb)
  · exact rfl
  refine V_iconst (v := 0) X dX7_keepMessage_15 (by decide) ?_
  apply V_callV1 X dX7_keepMessage_16 mk_X7_87 iv_Jx4a65c_get_915e3 (k_get l (j := 0) (h26.ov rfl rfl) (by rw [kpL_len]; exact hpos) rfl (by rw [kpL_len]; omega) (map_at hpos))
  · exact ll_o (h26.ov rfl rfl)
  · exact rfl
  · exact Nat.le_of_ble_eq_true rfl
  · exact ⟨Nat.le_of_ble_eq_true rfl, Nat.le_of_ble_eq_true rfl⟩
  · exact ⟨by dsimp only [rmm]; omega, by dsimp only [rmm]; omega⟩
  rintro r I1 ⟨rfl, rfl⟩
  have hj := kpI_lt hpos
  apply V_cast (ci := 3) X dX7_keepMessage_19 cl_X7_116
  · exact rfl
  · exact at_ms hj
  refine V_iconst (v := 0) X dX7_keepMessage_22 (by decide) ?_
  refine P8_6 X dX7_keepMessage_23 fk_X7_118 (hj) (Or.inl rfl) ?_
  refine V_aload_n X dX7_keepMessage_26 rfl rfl ?_
  apply V_get X dX7_keepMessage_27 fk_X7_16
  · exact at_sub (hb)
  · exact rfl
  refine V_iconst (v := 0) X dX7_keepMessage_30 (by decide) ?_
  apply V_callV1 X dX7_keepMessage_31 mk_X7_113 iv_Jx4a65c_remove_915e3 (k_rem l (j := 0) rfl (by decide) (h26.ov rfl rfl) (by rw [kpL_len]; omega) (by rw [kpL_len]; exact hpos) (fun a ha => by obtain ⟨x, hx, rfl⟩ := List.mem_map.mp ha; exact eo_ms (fl_mem.mp hx).1))
  · exact ll_o (h26.ov rfl rfl)
  · exact rfl
  · exact Nat.le_of_ble_eq_true rfl
  · exact ⟨Nat.le_of_ble_eq_true rfl, Nat.le_of_ble_eq_true rfl⟩
  · exact ⟨by dsimp only [rmm]; omega, by dsimp only [rmm]; omega⟩
  rintro r I1 ⟨rfl, hL, hF⟩
  obtain ⟨J1, rfl, hL1, hF1⟩ := LL_ov hF hL rfl rfl
  have hle : ((kpL T b).eraseIdx 0).length ≤ 5 := by rw [List.length_eraseIdx, kpL_len]; split <;> omega
  refine V_pop X dX7_keepMessage_34 rfl ?_
  refine V_aload_n X dX7_keepMessage_35 rfl rfl ?_
  apply V_get X dX7_keepMessage_36 fk_X7_16
  · exact at_sub (hb)
  · exact rfl
  refine V_aload_n X dX7_keepMessage_39 rfl rfl ?_
  apply V_callV1 X dX7_keepMessage_40 mk_X7_120 iv_Jx4a65c_add_9ea2d (c_add l (by decide) (hL1.ov rfl rfl) (by omega) (fun a ha => by obtain ⟨x, hx, rfl⟩ := List.mem_map.mp (List.mem_of_mem_eraseIdx ha); exact eo_ms (fl_mem.mp hx).1) (eo_ms (S := pa T 54 ((kpI T b).getD 0 0) 0) (by show M < nn (T.1 48 0); omega)))
  · exact ll_o (hL1.ov rfl rfl)
  · exact rfl
  · exact Nat.le_of_ble_eq_true rfl
  · exact ⟨Nat.le_of_ble_eq_true rfl, Nat.le_of_ble_eq_true rfl⟩
  · exact ⟨by dsimp only [rmm]; omega, by dsimp only [rmm]; omega⟩
  rintro r I1 ⟨rfl, hL, hF⟩
  obtain ⟨J2, rfl, hL2, hF2⟩ := LL_ov hF hL rfl rfl
  refine V_pop X dX7_keepMessage_43 rfl ?_
  refine V_aload_n X dX7_keepMessage_44 rfl rfl ?_
  refine V_iconst (v := 1) X dX7_keepMessage_45 (by decide) ?_
  refine P8_6 X dX7_keepMessage_46 fk_X7_118 (by show M < nn (T.1 48 0); omega) (Or.inr rfl) ?_
  refine V_vret X dX7_keepMessage_49 ?_ ?_ ?_
  · dsimp only [rmm]; omega
  · dsimp only [rmm]; omega
  have e5 := h5.1.mpr c_8
  have hf := fst_kp hpos
  refine ⟨rfl, J2, ?_, hF1.tr hF2, ?_⟩
  · rw [mkK, if_pos e5, hf]
  · rw [mkK, if_pos e5, hf]
    unfold kpL
    rw [kpI_new (T := pa T 54 ((kpI T b).getD 0 0) 0) h48 h49 (by rw [pa_1]; split <;> first | rfl | exact h54), if_pos rfl, List.map_append, kpI_540 hpos, ← map_ei]
    exact hL2
