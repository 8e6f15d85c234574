/-! publish, again -/
theorem kpN_54 {S : St} {s : Int32} {m : Nat} : ∀ n, kpN (pa S 54 m 0) s n ≤ kpN S s n
  | 0 => Nat.le_refl _
  | n + 1 => by
    rw [kpN, kpN]
    have ih := kpN_54 (S := S) (s := s) (m := m) n
    by_cases h : kpP (pa S 54 m 0) s n
    · have h2 : kpP S s n := by
        obtain ⟨h1, h2⟩ := h
        refine ⟨fun z => h1 ?_, h2⟩
        rw [pa_1]
        split
        · rfl
        · exact z
      rw [if_pos h, if_pos h2]
      omega
    · rw [if_neg h]
      omega
theorem IN.k54 {c B : Nat} {S : St} {m : Nat} (I : IN c B S) : IN c B (pa S 54 m 0) := by
  obtain ⟨i1, i2, i3, i4, i5, i6, i7, i8, i9, i10, i11, i12, i13⟩ := I
  obtain ⟨z1, z2, z3, z4, z5⟩ := i5
  refine ⟨i1.put rfl, i2.cg, i3.cg, i4.cg, ⟨z1, z2, z3, z4, ?_⟩, i6.cg rfl rfl rfl, i7.cg rfl rfl rfl rfl, i8.cg rfl rfl, i9.cg, i10.cg rfl rfl rfl rfl, fun b hb => Nat.le_trans (kpN_54 _) (i11 b hb), i12.cg rfl rfl rfl, i13⟩
  intro x hx
  rw [pa_1]
  split
  · rfl
  · exact z5 x hx
theorem IN.ack {c B : Nat} {S : St} {s b n : Int32} (I : IN c B S) : IN c B (ackS S s b n).1 := by
  unfold ackS
  split
  · exact I
  · split
    · split
      · exact I.k54
      · exact I
    · exact I
theorem IN.req1 {c B : Nat} {S : St} {a : Nat} (I : IN c B S) (ha : a < nn (S.1 8 0)) (hc : c + 1 ≤ 512) (h3 : nn (S.1 12 a) ≤ 3) : IN (c + 1) B (pa S 12 a (S.1 12 a + 1)) := by
  obtain ⟨i1, i2, i3, i4, i5, i6, i7, i8, i9, i10, i11, i12, i13⟩ := I
  obtain ⟨z1, z2, z3, z4, z5⟩ := i5
  have h12 := (ct_nn i2.2.2.1 (by decide)).1
  refine ⟨Iv.req1 (by omega) i1 hc h3, i2.cg, i3.cg, i4.cg, ⟨z1, ?_, z3, z4, z5⟩, i6.cg rfl rfl rfl, i7.cg rfl rfl rfl rfl, i8.cg rfl rfl, i9.cg, i10.cg rfl rfl rfl rfl, i11.cg rfl rfl rfl, i12.cg rfl rfl rfl, i13⟩
  intro x hx
  have hx : nn (S.1 8 0) ≤ x := hx
  rw [pa_i _ _ (by omega), pa_n _ _ (by decide)]
  exact z2 x hx
theorem IN.pubA {c B : Nat} {S : St} {s b n : Int32} (I : IN c B S) (hs : isSes S s) (hc : c + 1 ≤ 512) (h3 : nn (S.1 12 (nn s)) ≤ 3) : IN (c + 1) B (pubA S s b n) := by
  have h1 : IN c B (pa (ackS S s b n).1 60 0 (ackS S s b n).2) := (I.ack (s := s) (b := b) (n := n)).put (k := 60) rfl
  have e12 : (pa (ackS S s b n).1 60 0 (ackS S s b n).2).1 12 (nn s) = S.1 12 (nn s) := (pa_n _ _ (by decide)).trans (ackS_k (by decide))
  have e8 : (pa (ackS S s b n).1 60 0 (ackS S s b n).2).1 8 0 = S.1 8 0 := (pa_n _ _ (by decide)).trans (ackS_k (by decide))
  exact h1.req1 (by rw [e8]; exact (ses_ix hs).2) hc (by rw [e12]; exact h3)
theorem cn_pos {p : Nat → Bool} {n : Nat} : 0 < cn p n ↔ frs p n < n := by
  obtain ⟨h1, h2, h3⟩ := frs_spec p n
  constructor
  · intro h
    rcases Nat.lt_or_ge (frs p n) n with z | z
    · exact z
    · have : ∀ m, m ≤ n → cn p m = 0 := by
        intro m
        induction m with
        | zero => exact fun _ => rfl
        | succ m ih =>
          intro hm
          rw [cn, ih (by omega), if_neg (h2 m (by omega))]
      have := this n (Nat.le_refl _)
      omega
  · intro h
    have hp := h3 h
    have : ∀ m, frs p n < m → 0 < cn p m := by
      intro m
      induction m with
      | zero => exact fun h => absurd h (Nat.not_lt_zero _)
      | succ m ih =>
        intro hm
        rw [cn]
        by_cases e : frs p n = m
        · rw [← e, if_pos hp]
          omega
        · have := ih (by omega)
          omega
    exact this n h
theorem lo_le {x y : Int32} {B : Nat} (hx : sm x B) (hy : sm y B) (hB : B < 2 ^ 31) (x1 : 1 ≤ nn x) (y1 : 1 ≤ nn y) : lo x ≤ lo y ↔ x ≤ y := by
  have ex := sm_dec hx x1 hB
  have ey := sm_dec hy y1 hB
  have hx2 := hx.2
  have hy2 := hy.2
  unfold lo
  rw [if_neg (sm_ne0 hx x1), if_neg (sm_ne0 hy y1), ex.1, ey.1, nI_leI (by omega) (by omega)]
  have e1 := hx.1
  have e2 := hy.1
  generalize nn x = a at *
  generalize nn y = b at *
  rw [e1, e2, nI_leI (by omega) (by omega)]
  omega
def opI : Option Nat → Int32
  | none => -1
  | some k => nI k
def opV : Option Nat → Value
  | none => .null
  | some k => .ref (kd 5 k 0)
set_option maxRecDepth 100000 in
set_option maxHeartbeats 4000000 in
theorem k_ack (l : Launch) {S : St} {Q : Nat → List Nat} {J : aH} {s b n : Int32} (c : CT S) (R : RJ S Q J) (ow : OW S) (hs : isSes S s) (hb1 : ¬ b = -1) : AM l yX8_acknowledge cX8_acknowledge 5 (some .int) (rmm 5 0 0 128) [.ref rO, .ref (kd 4 (nn s) 0), .int b, .int n] (ovc S J) (RES (ackS S s b n) J) := by
  refine AM_of RX8 (by decide) rfl [some (.ref rO), some (.ref (kd 4 (nn s) 0)), some (.int b), some (.int n), none] rfl (Nat.le_of_ble_eq_true rfl) (fun Z X hNm => ?_)
  refine V_aload_n X dX8_acknowledge_0 rfl rfl ?_
  refine V_aload_n X dX8_acknowledge_1 rfl rfl ?_
  refine V_iload_n X dX8_acknowledge_2 rfl ?_
  apply V_callV2 X dX8_acknowledge_3 mk_X8_153 iv_X8_subscriptionOf (k_subOf l c R.ml ow hs)
  · exact at_root
  · exact rfl
  · exact Nat.le_of_ble_eq_true rfl
  · exact ⟨Nat.le_of_ble_eq_true rfl, Nat.le_of_ble_eq_true rfl⟩
  · exact ⟨by dsimp only [rmm]; omega, by dsimp only [rmm]; omega⟩
  rintro r0 I1 ⟨rfl, ⟨hb, rfl⟩ | ⟨hb, rfl⟩⟩
  · have hj := (sub_ix hb.1.1).2
    have eb := (sub_ix hb.1.1).1
    refine V_astore X dX8_acknowledge_6 (by decide) rfl rfl ?_
    refine V_aload X dX8_acknowledge_8 rfl rfl ?_
    refine V_ifnonnull X dX8_acknowledge_10 16 (by decide) ?_
    refine V_aload X dX8_acknowledge_16 rfl rfl ?_
    refine V_iload_n X dX8_acknowledge_18 rfl ?_
    apply V_callV1 X dX8_acknowledge_19 mk_X8_369 iv_X7_forget (k_forget l (n := n) hj c R)
    · exact at_sub (hj)
    · exact rfl
    · exact Nat.le_of_ble_eq_true rfl
    · exact ⟨Nat.le_of_ble_eq_true rfl, Nat.le_of_ble_eq_true rfl⟩
    · exact ⟨by dsimp only [rmm]; omega, by dsimp only [rmm]; omega⟩
    rintro r0 I1 (⟨hf, rfl, J2, rfl, R2, F2⟩ | ⟨hf, rfl, rfl⟩)
    · rw [← eb] at hf R2 ⊢
      refine V_if_eq X dX8_acknowledge_22 29 (by decide) (fun c_22 => ?_) (fun c_22 => ?_)
      · exact absurd c_22 (by decide)
      refine V_iconst (v := 1) X dX8_acknowledge_25 (by decide) ?_
      refine V_goto X dX8_acknowledge_26 31 (by decide) ?_
      refine V_iret X dX8_acknowledge_31 ?_ ?_ ?_ ?_
      · exact rfl
      · dsimp only [rmm]; omega
      · dsimp only [rmm]; omega
      exact RES.of (by rw [ackS, if_neg hb1, if_pos hb, if_pos hf]) R2 F2
    rw [← eb] at hf
    refine V_if_eq X dX8_acknowledge_22 29 (by decide) (fun c_22 => ?_) (fun c_22 => ?_)
    · refine V_bipush (v := (-9)) X dX8_acknowledge_29 (by decide) ?_
      refine V_iret X dX8_acknowledge_31 ?_ ?_ ?_ ?_
      · exact rfl
      · dsimp only [rmm]; omega
      · dsimp only [rmm]; omega
      exact RES.of (by rw [ackS, if_neg hb1, if_pos hb, if_neg hf]) R FJ.rf
    · exact absurd rfl c_22
  refine V_astore X dX8_acknowledge_6 (by decide) rfl rfl ?_
  refine V_aload X dX8_acknowledge_8 rfl rfl ?_
  refine V_ifnonnullN X dX8_acknowledge_10 ?_
  refine V_bipush (v := (-5)) X dX8_acknowledge_13 (by decide) ?_
  refine V_iret X dX8_acknowledge_15 ?_ ?_ ?_ ?_
  · exact rfl
  · dsimp only [rmm]; omega
  · dsimp only [rmm]; omega
  exact RES.of (by rw [ackS, if_neg hb1, if_neg hb]) R FJ.rf
set_option maxRecDepth 100000 in
set_option maxHeartbeats 4000000 in
theorem late_loop {l : Launch} {Z : Zt} {S : St} {J : aH} {s : Int32} {N B : Nat} (hs : isSes S s) (ow : OW S) (lo_ : LO B S) (hB : B < 2 ^ 31) (hN : N ≤ 20) (eN : nn (S.1 15 0) = N) (h3 : LL J 20 3 (rg 5 N)) (X : Fx Z l (rmm 3 0 0 64) cX8_longestLate 5 RX8 (some (.object "WatchServer$Subscription")) (fun r I' => I' = ovc S J ∧ ((∃ k, k < nn (S.1 15 0) ∧ S.1 17 k = s ∧ lpa (lt1 S s) (nn (S.1 15 0)) (-1) = nI k ∧ r = some (.ref (kd 5 k 0))) ∨ (lpa (lt1 S s) (nn (S.1 15 0)) (-1) = -1 ∧ r = some .null)))) : ∀ (m y : Nat) (a : Option Nat) (o4 : Option Value), N - y < m → y ≤ N → opI a = lpa (lt1 S s) y (-1) → (∀ k, a = some k → k < N ∧ S.1 17 k = s ∧ ¬ S.1 28 k = 0) → V Z 5 (ovc S J) [some (.ref rO), some (.ref (kd 4 (nn s) 0)), some (opV a), some (.int (nI y)), o4] [] 0 0 4
  | 0, _, _, _, h, _, _, _ => absurd h (Nat.not_lt_zero _)
  | m + 1, y, none, o4, hm, hy, ha, hk => by
    refine V_iload_n X dX8_longestLate_4 rfl ?_
    refine V_aload_n X dX8_longestLate_5 rfl rfl ?_
    apply V_get X dX8_longestLate_6 fk_X8_22
    · exact at_root
    · exact rfl
    apply V_callV0 X dX8_longestLate_9 mk_X8_59 iv_Jx4a65c_size_8abf5 (k_size l (x := nI N) (h3.ov rfl rfl) (by rw [rg_len]))
    · exact ll_o (h3.ov rfl rfl)
    · exact rfl
    · exact Nat.le_of_ble_eq_true rfl
    · exact ⟨Nat.le_of_ble_eq_true rfl, Nat.le_of_ble_eq_true rfl⟩
    · exact ⟨by dsimp only [rmm]; omega, by dsimp only [rmm]; omega⟩
    rintro r I1 ⟨rfl, rfl⟩
    refine V_icmp_ge X dX8_longestLate_12 78 (by decide) (fun c_12 => ?_) (fun c_12 => ?_)
    · have hx2 : y = N := by
        rcases Nat.lt_or_ge y (N) with z | z
        · exact absurd c_12 (nI_ge z (by omega))
        · omega
      refine V_aload_n X dX8_longestLate_78 rfl rfl ?_
      refine V_aret X dX8_longestLate_79 (Or.inl ⟨_, rfl⟩) rfl ?_ ?_ ?_
      · dsimp only [rmm]; omega
      · dsimp only [rmm]; omega
      rw [eN]
      exact ⟨rfl, Or.inr ⟨by rw [← hx2, ← ha]; rfl, rfl⟩⟩
    have hlt : y < N := by
      rcases Nat.lt_or_ge y (N) with z | z
      · exact z
      · exact absurd (nI_le z (by omega)) c_12
    refine V_aload_n X dX8_longestLate_15 rfl rfl ?_
    apply V_get X dX8_longestLate_16 fk_X8_22
    · exact at_root
    · exact rfl
    refine V_iload_n X dX8_longestLate_19 rfl ?_
    apply V_callV1 X dX8_longestLate_20 mk_X8_119 iv_Jx4a65c_get_915e3 (k_gti l h3 (by omega) rfl rfl hlt)
    · exact ll_o (h3.ov rfl rfl)
    · exact rfl
    · exact Nat.le_of_ble_eq_true rfl
    · exact ⟨Nat.le_of_ble_eq_true rfl, Nat.le_of_ble_eq_true rfl⟩
    · exact ⟨by dsimp only [rmm]; omega, by dsimp only [rmm]; omega⟩
    rintro r I1 ⟨rfl, rfl⟩
    apply V_cast (ci := 8) X dX8_longestLate_23 cl_X8_138
    · exact rfl
    · exact at_sub (by omega)
    refine V_astore X dX8_longestLate_26 (by decide) rfl rfl ?_
    refine V_aload X dX8_longestLate_28 rfl rfl ?_
    apply V_get X dX8_longestLate_30 fk_X8_319
    · exact at_sub (by omega)
    · exact rfl
    refine V_if_ne X dX8_longestLate_33 72 (by decide) (fun c_33 => ?_) (fun c_33 => ?_)
    · refine V_iinc X dX8_longestLate_72 rfl (by decide) rfl (nI (y + 1)) (nI_1 y) ?_
      refine V_goto X dX8_longestLate_75 4 (by decide) ?_
      exact late_loop hs ow lo_ hB hN eN h3 X m (y + 1) none _ (by omega) (by omega) (by rw [lpa, ← ha, lt1, if_pos (gb_0 c_33)]) hk
    refine V_aload X dX8_longestLate_36 rfl rfl ?_
    apply V_get X dX8_longestLate_38 fk_X8_175
    · exact at_sub (by omega)
    · exact rfl
    refine V_aload_n X dX8_longestLate_41 rfl rfl ?_
    refine V_acmp_ne X dX8_longestLate_42 72 (by decide) (Or.inl (ne_ses (ow.1 _ (by omega)).2)) (Or.inl (ne_ses (ses_ix hs).2)) (fun c_42 => ?_) (fun c_42 => ?_)
    · refine V_iinc X dX8_longestLate_72 rfl (by decide) rfl (nI (y + 1)) (nI_1 y) ?_
      refine V_goto X dX8_longestLate_75 4 (by decide) ?_
      exact late_loop hs ow lo_ hB hN eN h3 X m (y + 1) none _ (by omega) (by omega) (by rw [lpa, ← ha, lt1, if_neg (gb_1 c_33), if_neg (fun z => c_42 (own_ne z))]) hk
    have hown := own_eq (ow.1 _ (by omega)).1 (ses_ix hs).1 c_42
    refine V_aload X dX8_longestLate_45 rfl rfl ?_
    apply V_get X dX8_longestLate_47 fk_X8_292
    · exact at_sub (by omega)
    · exact rfl
    refine V_if_eq X dX8_longestLate_50 72 (by decide) (fun c_50 => ?_) (fun c_50 => ?_)
    · refine V_iinc X dX8_longestLate_72 rfl (by decide) rfl (nI (y + 1)) (nI_1 y) ?_
      refine V_goto X dX8_longestLate_75 4 (by decide) ?_
      exact late_loop hs ow lo_ hB hN eN h3 X m (y + 1) none _ (by omega) (by omega) (by rw [lpa, ← ha, lt1, if_neg (gb_1 c_33), if_pos hown, if_pos c_50]) hk
    refine V_aload_n X dX8_longestLate_53 rfl rfl ?_
    refine V_ifnullN X dX8_longestLate_54 69 (by decide) ?_
    refine V_aload X dX8_longestLate_69 rfl rfl ?_
    refine V_astore_n X dX8_longestLate_71 (by decide) rfl rfl ?_
    refine V_iinc X dX8_longestLate_72 rfl (by decide) rfl (nI (y + 1)) (nI_1 y) ?_
    refine V_goto X dX8_longestLate_75 4 (by decide) ?_
    exact late_loop hs ow lo_ hB hN eN h3 X m (y + 1) (some y) _ (by omega) (by omega) (by rw [lpa, ← ha]; show nI y = lt1 S s y (opI none); rw [lt1, if_neg (gb_1 c_33), if_pos hown, if_neg c_50, if_pos (by decide)]) (fun k e => by cases e; exact ⟨hlt, hown, c_50⟩)
  | m + 1, y, some k0, o4, hm, hy, ha, hk => by
    obtain ⟨k1, k2, k3⟩ := hk k0 rfl
    have hk0 : ¬ opI (some k0) < 0 := by
      show ¬ nI k0 < 0
      rw [fa_lt, nI_toInt (by omega), i0]
      omega
    have ek0 : nn (opI (some k0)) = k0 := nnI (by omega)
    refine V_iload_n X dX8_longestLate_4 rfl ?_
    refine V_aload_n X dX8_longestLate_5 rfl rfl ?_
    apply V_get X dX8_longestLate_6 fk_X8_22
    · exact at_root
    · exact rfl
    apply V_callV0 X dX8_longestLate_9 mk_X8_59 iv_Jx4a65c_size_8abf5 (k_size l (x := nI N) (h3.ov rfl rfl) (by rw [rg_len]))
    · exact ll_o (h3.ov rfl rfl)
    · exact rfl
    · exact Nat.le_of_ble_eq_true rfl
    · exact ⟨Nat.le_of_ble_eq_true rfl, Nat.le_of_ble_eq_true rfl⟩
    · exact ⟨by dsimp only [rmm]; omega, by dsimp only [rmm]; omega⟩
    rintro r I1 ⟨rfl, rfl⟩
    refine V_icmp_ge X dX8_longestLate_12 78 (by decide) (fun c_12 => ?_) (fun c_12 => ?_)
    · have hx2 : y = N := by
        rcases Nat.lt_or_ge y (N) with z | z
        · exact absurd c_12 (nI_ge z (by omega))
        · omega
      refine V_aload_n X dX8_longestLate_78 rfl rfl ?_
      refine V_aret X dX8_longestLate_79 (Or.inl ⟨_, rfl⟩) rfl ?_ ?_ ?_
      · dsimp only [rmm]; omega
      · dsimp only [rmm]; omega
      rw [eN]
      exact ⟨rfl, Or.inl ⟨k0, k1, k2, by rw [← hx2, ← ha]; rfl, rfl⟩⟩
    have hlt : y < N := by
      rcases Nat.lt_or_ge y (N) with z | z
      · exact z
      · exact absurd (nI_le z (by omega)) c_12
    refine V_aload_n X dX8_longestLate_15 rfl rfl ?_
    apply V_get X dX8_longestLate_16 fk_X8_22
    · exact at_root
    · exact rfl
    refine V_iload_n X dX8_longestLate_19 rfl ?_
    apply V_callV1 X dX8_longestLate_20 mk_X8_119 iv_Jx4a65c_get_915e3 (k_gti l h3 (by omega) rfl rfl hlt)
    · exact ll_o (h3.ov rfl rfl)
    · exact rfl
    · exact Nat.le_of_ble_eq_true rfl
    · exact ⟨Nat.le_of_ble_eq_true rfl, Nat.le_of_ble_eq_true rfl⟩
    · exact ⟨by dsimp only [rmm]; omega, by dsimp only [rmm]; omega⟩
    rintro r I1 ⟨rfl, rfl⟩
    apply V_cast (ci := 8) X dX8_longestLate_23 cl_X8_138
    · exact rfl
    · exact at_sub (by omega)
    refine V_astore X dX8_longestLate_26 (by decide) rfl rfl ?_
    refine V_aload X dX8_longestLate_28 rfl rfl ?_
    apply V_get X dX8_longestLate_30 fk_X8_319
    · exact at_sub (by omega)
    · exact rfl
    refine V_if_ne X dX8_longestLate_33 72 (by decide) (fun c_33 => ?_) (fun c_33 => ?_)
    · refine V_iinc X dX8_longestLate_72 rfl (by decide) rfl (nI (y + 1)) (nI_1 y) ?_
      refine V_goto X dX8_longestLate_75 4 (by decide) ?_
      exact late_loop hs ow lo_ hB hN eN h3 X m (y + 1) (some k0) _ (by omega) (by omega) (by rw [lpa, ← ha, lt1, if_pos (gb_0 c_33)]) hk
    refine V_aload X dX8_longestLate_36 rfl rfl ?_
    apply V_get X dX8_longestLate_38 fk_X8_175
    · exact at_sub (by omega)
    · exact rfl
    refine V_aload_n X dX8_longestLate_41 rfl rfl ?_
    refine V_acmp_ne X dX8_longestLate_42 72 (by decide) (Or.inl (ne_ses (ow.1 _ (by omega)).2)) (Or.inl (ne_ses (ses_ix hs).2)) (fun c_42 => ?_) (fun c_42 => ?_)
    · refine V_iinc X dX8_longestLate_72 rfl (by decide) rfl (nI (y + 1)) (nI_1 y) ?_
      refine V_goto X dX8_longestLate_75 4 (by decide) ?_
      exact late_loop hs ow lo_ hB hN eN h3 X m (y + 1) (some k0) _ (by omega) (by omega) (by rw [lpa, ← ha, lt1, if_neg (gb_1 c_33), if_neg (fun z => c_42 (own_ne z))]) hk
    have hown := own_eq (ow.1 _ (by omega)).1 (ses_ix hs).1 c_42
    refine V_aload X dX8_longestLate_45 rfl rfl ?_
    apply V_get X dX8_longestLate_47 fk_X8_292
    · exact at_sub (by omega)
    · exact rfl
    refine V_if_eq X dX8_longestLate_50 72 (by decide) (fun c_50 => ?_) (fun c_50 => ?_)
    · refine V_iinc X dX8_longestLate_72 rfl (by decide) rfl (nI (y + 1)) (nI_1 y) ?_
      refine V_goto X dX8_longestLate_75 4 (by decide) ?_
      exact late_loop hs ow lo_ hB hN eN h3 X m (y + 1) (some k0) _ (by omega) (by omega) (by rw [lpa, ← ha, lt1, if_neg (gb_1 c_33), if_pos hown, if_pos c_50]) hk
    refine V_aload_n X dX8_longestLate_53 rfl rfl ?_
    refine V_ifnull X dX8_longestLate_54 ?_
    refine V_aload X dX8_longestLate_57 rfl rfl ?_
    apply V_get X dX8_longestLate_59 fk_X8_349
    · exact at_sub (by omega)
    · exact rfl
    refine V_aload_n X dX8_longestLate_62 rfl rfl ?_
    apply V_get X dX8_longestLate_63 fk_X8_349
    · exact at_sub (by omega)
    · exact rfl
    refine V_icmp_ge X dX8_longestLate_66 72 (by decide) (fun c_66 => ?_) (fun c_66 => ?_)
    · have hle : S.1 29 (nn (opI (some k0))) ≤ S.1 29 y := by rw [ek0]; exact (lo_le (lo_.2 k0 (by omega)).2 (lo_.2 y (by omega)).2 hB ((lo_.2 k0 (by omega)).1 k3) ((lo_.2 y (by omega)).1 c_50)).mp c_66
      refine V_iinc X dX8_longestLate_72 rfl (by decide) rfl (nI (y + 1)) (nI_1 y) ?_
      refine V_goto X dX8_longestLate_75 4 (by decide) ?_
      exact late_loop hs ow lo_ hB hN eN h3 X m (y + 1) (some k0) _ (by omega) (by omega) (by rw [lpa, ← ha, lt1, if_neg (gb_1 c_33), if_pos hown, if_neg c_50, if_neg hk0, if_pos hle]) hk
    have hle : ¬ S.1 29 (nn (opI (some k0))) ≤ S.1 29 y := by rw [ek0]; exact fun z => c_66 ((lo_le (lo_.2 k0 (by omega)).2 (lo_.2 y (by omega)).2 hB ((lo_.2 k0 (by omega)).1 k3) ((lo_.2 y (by omega)).1 c_50)).mpr z)
    refine V_aload X dX8_longestLate_69 rfl rfl ?_
    refine V_astore_n X dX8_longestLate_71 (by decide) rfl rfl ?_
    refine V_iinc X dX8_longestLate_72 rfl (by decide) rfl (nI (y + 1)) (nI_1 y) ?_
    refine V_goto X dX8_longestLate_75 4 (by decide) ?_
    exact late_loop hs ow lo_ hB hN eN h3 X m (y + 1) (some y) _ (by omega) (by omega) (by rw [lpa, ← ha]; show nI y = lt1 S s y (opI (some k0)); rw [lt1, if_neg (gb_1 c_33), if_pos hown, if_neg c_50, if_neg hk0, if_neg hle]) (fun k e => by cases e; exact ⟨hlt, hown, c_50⟩)
set_option maxRecDepth 100000 in
set_option maxHeartbeats 4000000 in
theorem k_late (l : Launch) {S : St} {J : aH} {s : Int32} {B : Nat} (hs : isSes S s) (ow : OW S) (lo_ : LO B S) (hB : B < 2 ^ 31) (c : CT S) (m : ML S J) : AM l yX8_longestLate cX8_longestLate 5 (some (.object "WatchServer$Subscription")) (rmm 3 0 0 64) [.ref rO, .ref (kd 4 (nn s) 0)] (ovc S J) (fun r I' => I' = ovc S J ∧ ((∃ k, k < nn (S.1 15 0) ∧ S.1 17 k = s ∧ lpa (lt1 S s) (nn (S.1 15 0)) (-1) = nI k ∧ r = some (.ref (kd 5 k 0))) ∨ (lpa (lt1 S s) (nn (S.1 15 0)) (-1) = -1 ∧ r = some .null))) := by
  refine AM_of RX8 (by decide) rfl [some (.ref rO), some (.ref (kd 4 (nn s) 0)), none, none, none] rfl (Nat.le_of_ble_eq_true rfl) (fun Z X hNm => ?_)
  refine V_null X dX8_longestLate_0 ?_
  refine V_astore_n X dX8_longestLate_1 (by decide) rfl rfl ?_
  refine V_iconst (v := 0) X dX8_longestLate_2 (by decide) ?_
  refine V_istore_n X dX8_longestLate_3 (by decide) rfl ?_
  exact late_loop hs ow lo_ hB (ct_nn c.2.2.2.1 (by decide)).1 rfl m.2.2.2.1 X (nn (S.1 15 0) + 1) 0 none none (by omega) (Nat.zero_le _) rfl (fun k e => by cases e)
set_option maxRecDepth 100000 in
set_option maxHeartbeats 4000000 in
theorem more_loop {l : Launch} {Z : Zt} {S : St} {Q : Nat → List Nat} {J : aH} {s : Int32} (hs : isSes S s) (ow : OW S) (c : CT S) (R : RJ S Q J) (hq8 : ∀ x, x < nn (S.1 32 0) → sm (S.1 44 x) 8) (X : Fx Z l (rmm 5 0 0 107) cX8_firstWithMore 4 RX8 (some (.object "WatchServer$Subscription")) (fun r I' => I' = ovc S J ∧ ((∃ k, k < nn (S.1 15 0) ∧ S.1 17 k = s ∧ lpa (mr1 S s) (nn (S.1 15 0)) (-1) = nI k ∧ r = some (.ref (kd 5 k 0))) ∨ (lpa (mr1 S s) (nn (S.1 15 0)) (-1) = -1 ∧ r = some .null)))) : ∀ (m y : Nat) (o3 : Option Value), nn (S.1 15 0) - y < m → y ≤ nn (S.1 15 0) → lpa (mr1 S s) y (-1) = -1 → V Z 4 (ovc S J) [some (.ref rO), some (.ref (kd 4 (nn s) 0)), some (.int (nI y)), o3] [] 0 0 2
  | 0, _, _, _, _, _ => absurd (by assumption) (Nat.not_lt_zero _)
  | m + 1, y, o3, hm, hy, ha => by
    have h20 := (ct_nn c.2.2.2.1 (by decide)).1
    have h60 := (ct_nn c.2.2.2.2.1 (by decide)).1
    have h3 := R.ml.2.2.2.1
    refine V_iload_n X dX8_firstWithMore_2 rfl ?_
    refine V_aload_n X dX8_firstWithMore_3 rfl rfl ?_
    apply V_get X dX8_firstWithMore_4 fk_X8_22
    · exact at_root
    · exact rfl
    apply V_callV0 X dX8_firstWithMore_7 mk_X8_59 iv_Jx4a65c_size_8abf5 (k_size l (x := nI (nn (S.1 15 0))) (h3.ov rfl rfl) (by rw [rg_len]))
    · exact ll_o (h3.ov rfl rfl)
    · exact rfl
    · exact Nat.le_of_ble_eq_true rfl
    · exact ⟨Nat.le_of_ble_eq_true rfl, Nat.le_of_ble_eq_true rfl⟩
    · exact ⟨by dsimp only [rmm]; omega, by dsimp only [rmm]; omega⟩
    rintro r I1 ⟨rfl, rfl⟩
    refine V_icmp_ge X dX8_firstWithMore_10 62 (by decide) (fun c_10 => ?_) (fun c_10 => ?_)
    · have hx2 : y = nn (S.1 15 0) := by
        rcases Nat.lt_or_ge y (nn (S.1 15 0)) with z | z
        · exact absurd c_10 (nI_ge z (by omega))
        · omega
      refine V_null X dX8_firstWithMore_62 ?_
      refine V_aret X dX8_firstWithMore_63 (Or.inl ⟨_, rfl⟩) rfl ?_ ?_ ?_
      · dsimp only [rmm]; omega
      · dsimp only [rmm]; omega
      exact ⟨rfl, Or.inr ⟨by rw [← hx2]; exact ha, rfl⟩⟩
    have hlt : y < nn (S.1 15 0) := by
      rcases Nat.lt_or_ge y (nn (S.1 15 0)) with z | z
      · exact z
      · exact absurd (nI_le z (by omega)) c_10
    refine V_aload_n X dX8_firstWithMore_13 rfl rfl ?_
    apply V_get X dX8_firstWithMore_14 fk_X8_22
    · exact at_root
    · exact rfl
    refine V_iload_n X dX8_firstWithMore_17 rfl ?_
    apply V_callV1 X dX8_firstWithMore_18 mk_X8_119 iv_Jx4a65c_get_915e3 (k_gti l h3 (by omega) rfl rfl hlt)
    · exact ll_o (h3.ov rfl rfl)
    · exact rfl
    · exact Nat.le_of_ble_eq_true rfl
    · exact ⟨Nat.le_of_ble_eq_true rfl, Nat.le_of_ble_eq_true rfl⟩
    · exact ⟨by dsimp only [rmm]; omega, by dsimp only [rmm]; omega⟩
    rintro r I1 ⟨rfl, rfl⟩
    apply V_cast (ci := 8) X dX8_firstWithMore_21 cl_X8_138
    · exact rfl
    · exact at_sub hlt
    refine V_astore_n X dX8_firstWithMore_24 (by decide) rfl rfl ?_
    refine V_aload_n X dX8_firstWithMore_25 rfl rfl ?_
    apply V_get X dX8_firstWithMore_26 fk_X8_319
    · exact at_sub (hlt)
    · exact rfl
    refine V_if_ne X dX8_firstWithMore_29 56 (by decide) (fun c_29 => ?_) (fun c_29 => ?_)
    · refine V_iinc X dX8_firstWithMore_56 rfl (by decide) rfl (nI (y + 1)) (nI_1 y) ?_
      refine V_goto X dX8_firstWithMore_59 2 (by decide) ?_
      exact more_loop hs ow c R hq8 X m (y + 1) _ (by omega) (by omega) (by rw [lpa, ha, mr1, if_neg (by decide), if_pos (gb_0 c_29)])
    refine V_aload_n X dX8_firstWithMore_32 rfl rfl ?_
    apply V_get X dX8_firstWithMore_33 fk_X8_175
    · exact at_sub (hlt)
    · exact rfl
    refine V_aload_n X dX8_firstWithMore_36 rfl rfl ?_
    refine V_acmp_ne X dX8_firstWithMore_37 56 (by decide) (Or.inl (ne_ses (ow.1 _ hlt).2)) (Or.inl (ne_ses (ses_ix hs).2)) (fun c_37 => ?_) (fun c_37 => ?_)
    · refine V_iinc X dX8_firstWithMore_56 rfl (by decide) rfl (nI (y + 1)) (nI_1 y) ?_
      refine V_goto X dX8_firstWithMore_59 2 (by decide) ?_
      exact more_loop hs ow c R hq8 X m (y + 1) _ (by omega) (by omega) (by rw [lpa, ha, mr1, if_neg (by decide), if_neg (gb_1 c_29), if_neg (fun z => c_37 (own_ne z))])
    have hown := own_eq (ow.1 _ hlt).1 (ses_ix hs).1 c_37
    refine V_aload_n X dX8_firstWithMore_40 rfl rfl ?_
    apply V_get X dX8_firstWithMore_41 fk_X8_348
    · exact at_sub (hlt)
    · exact rfl
    refine V_if_eq X dX8_firstWithMore_44 56 (by decide) (fun c_44 => ?_) (fun c_44 => ?_)
    · refine V_iinc X dX8_firstWithMore_56 rfl (by decide) rfl (nI (y + 1)) (nI_1 y) ?_
      refine V_goto X dX8_firstWithMore_59 2 (by decide) ?_
      exact more_loop hs ow c R hq8 X m (y + 1) _ (by omega) (by omega) (by rw [lpa, ha, mr1, if_neg (by decide), if_neg (gb_1 c_29), if_pos hown, if_pos c_44])
    refine V_aload_n X dX8_firstWithMore_47 rfl rfl ?_
    apply V_callV0 X dX8_firstWithMore_48 mk_X8_297 iv_X7_isReady (k_ready l hlt (R.its hlt) (R.ql hq8) h60 (by omega))
    · exact at_sub (hlt)
    · exact rfl
    · exact Nat.le_of_ble_eq_true rfl
    · exact ⟨Nat.le_of_ble_eq_true rfl, Nat.le_of_ble_eq_true rfl⟩
    · exact ⟨by dsimp only [rmm]; omega, by dsimp only [rmm]; omega⟩
    rintro r I1 ⟨rfl, rfl⟩
    refine V_if_eq X dX8_firstWithMore_51 56 (by decide) (fun c_51 => ?_) (fun c_51 => ?_)
    · have h_51 := bz_f c_51
      refine V_iinc X dX8_firstWithMore_56 rfl (by decide) rfl (nI (y + 1)) (nI_1 y) ?_
      refine V_goto X dX8_firstWithMore_59 2 (by decide) ?_
      exact more_loop hs ow c R hq8 X m (y + 1) _ (by omega) (by omega) (by rw [lpa, ha, mr1, if_neg (by decide), if_neg (gb_1 c_29), if_pos hown, if_neg c_44, if_neg h_51])
    have h_51 := bz_t c_51
    refine V_aload_n X dX8_firstWithMore_54 rfl rfl ?_
    refine V_aret X dX8_firstWithMore_55 (Or.inl ⟨_, rfl⟩) rfl ?_ ?_ ?_
    · dsimp only [rmm]; omega
    · dsimp only [rmm]; omega
    have e1 : lpa (mr1 S s) (y + 1) (-1) = nI y := by rw [lpa, ha, mr1, if_neg (by decide), if_neg (gb_1 c_29), if_pos hown, if_neg c_44, if_pos h_51]
    have h0 : 0 ≤ lpa (mr1 S s) (y + 1) (-1) := by
      rw [e1, fa_le, nI_toInt (by omega), i0]
      omega
    have e2 := lpa_keep (nn (S.1 15 0) - (y + 1)) (y + 1) h0
    rw [show y + 1 + (nn (S.1 15 0) - (y + 1)) = nn (S.1 15 0) by omega, e1] at e2
    exact ⟨rfl, Or.inl ⟨y, hlt, hown, e2, rfl⟩⟩
set_option maxRecDepth 100000 in
set_option maxHeartbeats 4000000 in
theorem k_more (l : Launch) {S : St} {Q : Nat → List Nat} {J : aH} {s : Int32} (hs : isSes S s) (ow : OW S) (c : CT S) (R : RJ S Q J) (hq8 : ∀ x, x < nn (S.1 32 0) → sm (S.1 44 x) 8) : AM l yX8_firstWithMore cX8_firstWithMore 4 (some (.object "WatchServer$Subscription")) (rmm 5 0 0 107) [.ref rO, .ref (kd 4 (nn s) 0)] (ovc S J) (fun r I' => I' = ovc S J ∧ ((∃ k, k < nn (S.1 15 0) ∧ S.1 17 k = s ∧ lpa (mr1 S s) (nn (S.1 15 0)) (-1) = nI k ∧ r = some (.ref (kd 5 k 0))) ∨ (lpa (mr1 S s) (nn (S.1 15 0)) (-1) = -1 ∧ r = some .null))) := by
  refine AM_of RX8 (by decide) rfl [some (.ref rO), some (.ref (kd 4 (nn s) 0)), none, none] rfl (Nat.le_of_ble_eq_true rfl) (fun Z X hNm => ?_)
  refine V_iconst (v := 0) X dX8_firstWithMore_0 (by decide) ?_
  refine V_istore_n X dX8_firstWithMore_1 (by decide) rfl ?_
  exact more_loop hs ow c R hq8 X (nn (S.1 15 0) + 1) 0 none (by omega) (Nat.zero_le _) rfl
