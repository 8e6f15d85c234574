theorem ll_o {I : aH} {k i : Nat} {L : List Nat} (h : LL I k i L) : I (kd k i 0) = some (.inr (0, [.int h.choose, .ref (arA k i h.choose_spec.choose), .int (nI L.length)])) := h.choose_spec.choose_spec.choose_spec.choose_spec.1
theorem jx_of {x c : Int32} (h0 : ¬ x < 0) (h1 : x < c) : x = nI (nn x) ∧ nn x < nn c := by
  obtain ⟨k, hk, rfl⟩ := nI_of h0
  have h0' : ¬ c < 0 := fun q => h0 ((fa_lt _ _).mpr (Int.lt_trans ((fa_lt _ _).mp h1) ((fa_lt _ _).mp q)))
  obtain ⟨m, hm, rfl⟩ := nI_of h0'
  rw [nnI hk, nnI hm]
  refine ⟨rfl, ?_⟩
  rcases Nat.lt_or_ge k m with z | z
  · exact z
  · exact absurd (nI_le z hk) (fun q => absurd ((fa_lt _ _).mp h1) (Int.not_lt.mpr ((fa_le _ _).mp q)))
theorem lt_ix {x : Int32} {n b : Nat} (h : sm x b) (hb : b < 2 ^ 31) (hn : n < nn x) : ¬ nI n < 0 ∧ nI n < x := by
  have e := h.1
  have hle := h.2
  generalize nn x = m at *
  subst e
  refine ⟨?_, ?_⟩
  · rw [fa_lt, nI_toInt (by omega)]
    exact Int.not_lt.mpr (Int.natCast_nonneg n)
  · rw [fa_lt, nI_toInt (by omega), nI_toInt (by omega)]
    omega
/-- counts -/
def CT (S : St) : Prop := ct S 1 40 ∧ ct S 4 100 ∧ ct S 8 12 ∧ ct S 15 20 ∧ ct S 32 60 ∧ ct S 48 512
/-- the six lists -/
def ML (S : St) (J : aH) : Prop := LL J 20 0 (rg 2 (nn (S.1 1 0))) ∧ LL J 20 1 (rg 3 (nn (S.1 4 0))) ∧ LL J 20 2 (rg 4 (nn (S.1 8 0))) ∧ LL J 20 3 (rg 5 (nn (S.1 15 0))) ∧ LL J 20 4 (rg 6 (nn (S.1 32 0))) ∧ LL J 20 5 (rg 8 (nn (S.1 48 0)))
theorem k_size (l : Launch) {I : aH} {k i : Nat} {L : List Nat} {x : Int32} (h : LL I k i L) (e : nI L.length = x) : AM l yJx4a65c_size_8abf5 cJx4a65c_size_8abf5 1 (some .int) (rmm 0 0 0 0) [.ref (kd k i 0)] I (fun r I' => r = some (.int x) ∧ I' = I) := by
  have := c_size l h
  rw [e] at this
  exact this
theorem k_szr (l : Launch) {S : St} {J : aH} {k i q f b : Nat} (h : LL J k i (rg q (nn (S.1 f 0)))) (c : ct S f b) (hb : b < 2 ^ 31) (hk : kO k = false) (hk1 : kO (k + 1) = false) : AM l yJx4a65c_size_8abf5 cJx4a65c_size_8abf5 1 (some .int) (rmm 0 0 0 0) [.ref (kd k i 0)] (ovc S J) (fun r I' => r = some (.int (S.1 f 0)) ∧ I' = ovc S J) :=
  k_size l (h.ov hk hk1) (by rw [rg_len]; exact (ct_nn c hb).2.symm)
theorem k_get (l : Launch) {I : aH} {k i a : Nat} {j : Int32} {L : List Nat} (h : LL I k i L) (hj : nn j < L.length) (ej : j = nI (nn j)) (hn : L.length < 2 ^ 30) (ea : L.getD (nn j) 0 = a) : AM l yJx4a65c_get_915e3 cJx4a65c_get_915e3 2 (some (.object "java/lang/Object")) (rmm 2 0 0 43) [.ref (kd k i 0), .int j] I (fun r I' => r = some (.ref a) ∧ I' = I) := by
  have := c_get l h hn hj
  rw [ea, ← ej] at this
  exact this
theorem k_gtr (l : Launch) {S : St} {J : aH} {k i q f b : Nat} {j : Int32} (h : LL J k i (rg q (nn (S.1 f 0)))) (c : ct S f b) (hb : b < 2 ^ 29) (hk : kO k = false) (hk1 : kO (k + 1) = false) (h0 : ¬ j < 0) (h1 : j < S.1 f 0) : AM l yJx4a65c_get_915e3 cJx4a65c_get_915e3 2 (some (.object "java/lang/Object")) (rmm 2 0 0 43) [.ref (kd k i 0), .int j] (ovc S J) (fun r I' => r = some (.ref (kd q (nn j) 0)) ∧ I' = ovc S J) :=
  k_get l (h.ov hk hk1) (by rw [rg_len]; exact (jx_of h0 h1).2) (jx_of h0 h1).1 (by rw [rg_len]; have := (ct_nn c (by omega)).1; omega) (rg_at (jx_of h0 h1).2)
theorem le_ge {a b : Int32} (h : b ≤ a) : ¬ a < b := fun q => by
  have h1 := (fa_lt _ _).mp q
  have h2 := (fa_le _ _).mp h
  omega
theorem ge_le {a b : Int32} (h : ¬ a < b) : b ≤ a := by
  have h1 : ¬ a.toInt < b.toInt := fun q => h ((fa_lt _ _).mpr q)
  exact (fa_le _ _).mpr (by omega)
theorem gb_1 {x : Int32} (h : gb x = 0) : ¬ x = 0 := fun e => by rw [gb, if_pos e] at h; exact absurd h (by decide)
theorem gb_0 {x : Int32} (h : ¬ gb x = 0) : x = 0 := by
  by_cases e : x = 0
  · exact e
  · exact absurd (by rw [gb, if_neg e]) h
theorem not_or1 {p q : Prop} (h : ¬ p) : ¬ (p ∧ q) := fun z => h z.1
theorem not_or2 {p q : Prop} (h : ¬ q) : ¬ (p ∧ q) := fun z => h z.2
set_option maxRecDepth 100000 in
set_option maxHeartbeats 4000000 in
theorem k_within (l : Launch) {I : aH} (x a b : Int32) : AM l yX8_isWithin cX8_isWithin 3 (some .boolean) (rmm 0 0 0 0) [.int x, .int a, .int b] I (fun r I' => r = some (.int (if a ≤ x ∧ x ≤ b then 1 else 0)) ∧ I' = I) := by
  refine AM_of RX8 (by decide) rfl [some (.int x), some (.int a), some (.int b)] rfl (Nat.le_of_ble_eq_true rfl) (fun Z X hNm => ?_)
  refine V_iload_n X dX8_isWithin_0 rfl ?_
  refine V_iload_n X dX8_isWithin_1 rfl ?_
  refine V_icmp_lt X dX8_isWithin_2 14 (by decide) (fun c_2 => ?_) (fun c_2 => ?_)
  · refine V_iconst (v := 0) X dX8_isWithin_14 (by decide) ?_
    refine V_iret X dX8_isWithin_15 ?_ ?_ ?_ ?_
    · exact rfl
    · dsimp only [rmm]; omega
    · dsimp only [rmm]; omega
    exact ⟨by rw [if_neg (fun z => le_ge z.1 c_2)], rfl⟩
  refine V_iload_n X dX8_isWithin_5 rfl ?_
  refine V_iload_n X dX8_isWithin_6 rfl ?_
  refine V_icmp_gt X dX8_isWithin_7 14 (by decide) (fun c_7 => ?_) (fun c_7 => ?_)
  · refine V_iconst (v := 0) X dX8_isWithin_14 (by decide) ?_
    refine V_iret X dX8_isWithin_15 ?_ ?_ ?_ ?_
    · exact rfl
    · dsimp only [rmm]; omega
    · dsimp only [rmm]; omega
    exact ⟨by rw [if_neg (fun z => le_ge z.2 c_7)], rfl⟩
  refine V_iconst (v := 1) X dX8_isWithin_10 (by decide) ?_
  refine V_goto X dX8_isWithin_11 15 (by decide) ?_
  refine V_iret X dX8_isWithin_15 ?_ ?_ ?_ ?_
  · exact rfl
  · dsimp only [rmm]; omega
  · dsimp only [rmm]; omega
  exact ⟨by rw [if_pos ⟨ge_le c_2, ge_le c_7⟩], rfl⟩
set_option maxRecDepth 100000 in
set_option maxHeartbeats 4000000 in
theorem k_mult (l : Launch) {I : aH} (x y : Int32) (hy : ¬ y ≤ 0) : AM l yX8_isMultiple cX8_isMultiple 2 (some .boolean) (rmm 0 0 0 0) [.int x, .int y] I (fun r I' => r = some (.int (if remI x y = 0 then 1 else 0)) ∧ I' = I) := by
  refine AM_of RX8 (by decide) rfl [some (.int x), some (.int y)] rfl (Nat.le_of_ble_eq_true rfl) (fun Z X hNm => ?_)
  refine V_iload_n X dX8_isMultiple_0 rfl ?_
  refine V_if_le X dX8_isMultiple_1 14 (by decide) (fun c_1 => ?_) (fun c_1 => ?_)
  · exact absurd c_1 hy
  refine V_iload_n X dX8_isMultiple_4 rfl ?_
  refine V_iload_n X dX8_isMultiple_5 rfl ?_
  refine V_irem X dX8_isMultiple_6 (fun q => hy (by rw [q]; decide)) ?_
  refine V_if_ne X dX8_isMultiple_7 14 (by decide) (fun c_7 => ?_) (fun c_7 => ?_)
  · refine V_iconst (v := 0) X dX8_isMultiple_14 (by decide) ?_
    refine V_iret X dX8_isMultiple_15 ?_ ?_ ?_ ?_
    · exact rfl
    · dsimp only [rmm]; omega
    · dsimp only [rmm]; omega
    exact ⟨by rw [if_neg c_7], rfl⟩
  refine V_iconst (v := 1) X dX8_isMultiple_10 (by decide) ?_
  refine V_goto X dX8_isMultiple_11 15 (by decide) ?_
  refine V_iret X dX8_isMultiple_15 ?_ ?_ ?_ ?_
  · exact rfl
  · dsimp only [rmm]; omega
  · dsimp only [rmm]; omega
  exact ⟨by rw [if_pos c_7], rfl⟩
set_option maxRecDepth 100000 in
set_option maxHeartbeats 4000000 in
theorem k_num (l : Launch) {I : aH} (x : Int32) : AM l yX8_asNumber cX8_asNumber 1 (some .int) (rmm 0 0 0 0) [.int x] I (fun r I' => r = some (.int (if x = 0 then 0 else 1)) ∧ I' = I) := by
  refine AM_of RX8 (by decide) rfl [some (.int x)] rfl (Nat.le_of_ble_eq_true rfl) (fun Z X hNm => ?_)
  refine V_iload_n X dX8_asNumber_0 rfl ?_
  refine V_if_eq X dX8_asNumber_1 8 (by decide) (fun c_1 => ?_) (fun c_1 => ?_)
  · refine V_iconst (v := 0) X dX8_asNumber_8 (by decide) ?_
    refine V_iret X dX8_asNumber_9 ?_ ?_ ?_ ?_
    · exact rfl
    · dsimp only [rmm]; omega
    · dsimp only [rmm]; omega
    exact ⟨by rw [if_pos c_1], rfl⟩
  refine V_iconst (v := 1) X dX8_asNumber_4 (by decide) ?_
  refine V_goto X dX8_asNumber_5 9 (by decide) ?_
  refine V_iret X dX8_asNumber_9 ?_ ?_ ?_ ?_
  · exact rfl
  · dsimp only [rmm]; omega
  · dsimp only [rmm]; omega
  exact ⟨by rw [if_neg c_1], rfl⟩
theorem ovc_61 {S : St} {J : aH} {i : Nat} {x : Int32} : hu (ovc S J) (kd 11 0 0) (.inl (0, aI 10 (upd (S.1 61) i x))) = ovc (pa S 61 i x) J := by
  have e0 : (pa S 61 i x).1 61 = upd (S.1 61) i x := by
    funext j
    simp [pa, upd]
  refine hu_ovc rfl ?_ ?_
  · show (some (.inl (0, aI 10 ((pa S 61 i x).1 61))) : Option aO) = _
    rw [e0]
  · intro k' i' hk hne
    rcases kO_c hk with rfl | rfl | rfl | rfl | rfl | rfl | rfl | rfl | rfl
    · exact oc1 rfl rfl rfl rfl
    · exact oc2 rfl rfl rfl
    · exact oc3 rfl rfl rfl rfl
    · exact oc4 rfl rfl rfl rfl rfl
    · exact oc5 rfl rfl rfl rfl rfl rfl rfl rfl rfl rfl rfl rfl rfl rfl rfl rfl
    · exact oc6 rfl rfl rfl rfl rfl rfl rfl rfl rfl rfl
    · exact oc7 rfl rfl rfl
    · exact oc8 rfl rfl rfl rfl rfl rfl rfl
    · exact (if_neg (fun z => hne ⟨rfl, z⟩)).trans (if_neg (fun z => hne ⟨rfl, z⟩)).symm
set_option maxRecDepth 100000 in
set_option maxHeartbeats 4000000 in
theorem k_refuse (l : Launch) {S : St} {J : aH} {x : Int32} (hx : vp_in (-x) 10) (h1 : 1 ≤ -x ∧ -x ≤ 9) : AM l yX8_refuse cX8_refuse 3 (some .int) (rmm 1 0 0 22) [.ref rO, .int x] (ovc S J) (fun r I' => r = some (.int x) ∧ I' = ovc (rfw S x) J) := by
  refine AM_of RX8 (by decide) rfl [some (.ref rO), some (.int x), none] rfl (Nat.le_of_ble_eq_true rfl) (fun Z X hNm => ?_)
  refine V_iload_n X dX8_refuse_0 rfl ?_
  refine V_ineg X dX8_refuse_1 ?_
  refine V_istore_n X dX8_refuse_2 (by decide) rfl ?_
  refine V_iload_n X dX8_refuse_3 rfl ?_
  refine V_iconst (v := 1) X dX8_refuse_4 (by decide) ?_
  refine V_bipush (v := 9) X dX8_refuse_5 (by decide) ?_
  refine V_callS3 X dX8_refuse_7 mk_X8_51 st_X8_isWithin (k_within l (-x) 1 9) (Nat.le_of_ble_eq_true rfl) ⟨Nat.le_of_ble_eq_true rfl, Nat.le_of_ble_eq_true rfl⟩ ?_ ?_
  · exact ⟨by dsimp only [rmm]; omega, by dsimp only [rmm]; omega⟩
  rintro r I1 ⟨rfl, rfl⟩
  refine V_if_eq X dX8_refuse_10 23 (by decide) (fun c_10 => ?_) (fun c_10 => ?_)
  · exact absurd h1 (bz_f c_10)
  have h_10 := bz_t c_10
  refine V_aload_n X dX8_refuse_13 rfl rfl ?_
  apply V_get X dX8_refuse_14 fk_X8_31
  · exact at_root
  · exact rfl
  refine V_iload_n X dX8_refuse_17 rfl ?_
  refine V_dup2 X dX8_refuse_18 rfl rfl ?_
  apply V_iaload X dX8_refuse_19
  · exact at_fus
  · exact hx
  refine V_iconst (v := 1) X dX8_refuse_20 (by decide) ?_
  refine V_iadd X dX8_refuse_21 ?_
  apply V_iastore X dX8_refuse_22
  · exact at_fus
  · exact ro_k (by decide)
  · exact hx
  rw [ovc_61]
  refine V_iload_n X dX8_refuse_23 rfl ?_
  refine V_iret X dX8_refuse_24 ?_ ?_ ?_ ?_
  · exact rfl
  · dsimp only [rmm]; omega
  · dsimp only [rmm]; omega
  exact ⟨rfl, rfl⟩
set_option maxRecDepth 100000 in
set_option maxHeartbeats 4000000 in
theorem k_sesAt (l : Launch) {S : St} {J : aH} {s : Int32} (c : CT S) (m : ML S J) : AM l yX8_sessionAt cX8_sessionAt 2 (some (.object "WatchServer$Session")) (rmm 3 0 0 64) [.ref rO, .int s] (ovc S J) (fun r I' => I' = ovc S J ∧ ((isSes S s ∧ r = some (.ref (kd 4 (nn s) 0))) ∨ (¬ isSes S s ∧ r = some .null))) := by
  refine AM_of RX8 (by decide) rfl [some (.ref rO), some (.int s)] rfl (Nat.le_of_ble_eq_true rfl) (fun Z X hNm => ?_)
  refine V_iload_n X dX8_sessionAt_0 rfl ?_
  refine V_if_lt X dX8_sessionAt_1 29 (by decide) (fun c_1 => ?_) (fun c_1 => ?_)
  · refine V_null X dX8_sessionAt_29 ?_
    refine V_aret X dX8_sessionAt_30 (Or.inl ⟨_, rfl⟩) rfl ?_ ?_ ?_
    · dsimp only [rmm]; omega
    · dsimp only [rmm]; omega
    exact ⟨rfl, Or.inr ⟨fun z => z.1 c_1, rfl⟩⟩
  refine V_iload_n X dX8_sessionAt_4 rfl ?_
  refine V_aload_n X dX8_sessionAt_5 rfl rfl ?_
  apply V_get X dX8_sessionAt_6 fk_X8_19
  · exact at_root
  · exact rfl
  apply V_callV0 X dX8_sessionAt_9 mk_X8_59 iv_Jx4a65c_size_8abf5 (k_szr l (m.2.2.1) (c.2.2.1) (by decide) rfl rfl)
  · exact ll_o ((m.2.2.1).ov rfl rfl)
  · exact rfl
  · exact Nat.le_of_ble_eq_true rfl
  · exact ⟨Nat.le_of_ble_eq_true rfl, Nat.le_of_ble_eq_true rfl⟩
  · exact ⟨by dsimp only [rmm]; omega, by dsimp only [rmm]; omega⟩
  rintro r I1 ⟨rfl, rfl⟩
  refine V_icmp_ge X dX8_sessionAt_12 29 (by decide) (fun c_12 => ?_) (fun c_12 => ?_)
  · refine V_null X dX8_sessionAt_29 ?_
    refine V_aret X dX8_sessionAt_30 (Or.inl ⟨_, rfl⟩) rfl ?_ ?_ ?_
    · dsimp only [rmm]; omega
    · dsimp only [rmm]; omega
    exact ⟨rfl, Or.inr ⟨fun z => le_ge c_12 z.2, rfl⟩⟩
  refine V_aload_n X dX8_sessionAt_15 rfl rfl ?_
  apply V_get X dX8_sessionAt_16 fk_X8_19
  · exact at_root
  · exact rfl
  refine V_iload_n X dX8_sessionAt_19 rfl ?_
  apply V_callV1 X dX8_sessionAt_20 mk_X8_119 iv_Jx4a65c_get_915e3 (k_gtr l (m.2.2.1) (c.2.2.1) (by decide) rfl rfl c_1 (Decidable.byContradiction fun q => c_12 (ge_le q)))
  · exact ll_o ((m.2.2.1).ov rfl rfl)
  · exact rfl
  · exact Nat.le_of_ble_eq_true rfl
  · exact ⟨Nat.le_of_ble_eq_true rfl, Nat.le_of_ble_eq_true rfl⟩
  · exact ⟨by dsimp only [rmm]; omega, by dsimp only [rmm]; omega⟩
  rintro r I1 ⟨rfl, rfl⟩
  apply V_cast (ci := 7) X dX8_sessionAt_23 cl_X8_95
  · exact rfl
  · exact at_ses (jx_of c_1 (Decidable.byContradiction fun q => c_12 (ge_le q))).2
  refine V_goto X dX8_sessionAt_26 30 (by decide) ?_
  refine V_aret X dX8_sessionAt_30 (Or.inl ⟨_, rfl⟩) rfl ?_ ?_ ?_
  · dsimp only [rmm]; omega
  · dsimp only [rmm]; omega
  exact ⟨rfl, Or.inl ⟨⟨c_1, Decidable.byContradiction fun q => c_12 (ge_le q)⟩, rfl⟩⟩
set_option maxRecDepth 100000 in
set_option maxHeartbeats 4000000 in
theorem k_nodeAt (l : Launch) {S : St} {J : aH} {s : Int32} (c : CT S) (m : ML S J) : AM l yX8_nodeAt cX8_nodeAt 2 (some (.object "WatchServer$Node")) (rmm 3 0 0 64) [.ref rO, .int s] (ovc S J) (fun r I' => I' = ovc S J ∧ ((isN S s ∧ r = some (.ref (kd 2 (nn s) 0))) ∨ (¬ isN S s ∧ r = some .null))) := by
  refine AM_of RX8 (by decide) rfl [some (.ref rO), some (.int s)] rfl (Nat.le_of_ble_eq_true rfl) (fun Z X hNm => ?_)
  refine V_iload_n X dX8_nodeAt_0 rfl ?_
  refine V_if_lt X dX8_nodeAt_1 29 (by decide) (fun c_1 => ?_) (fun c_1 => ?_)
  · refine V_null X dX8_nodeAt_29 ?_
    refine V_aret X dX8_nodeAt_30 (Or.inl ⟨_, rfl⟩) rfl ?_ ?_ ?_
    · dsimp only [rmm]; omega
    · dsimp only [rmm]; omega
    exact ⟨rfl, Or.inr ⟨fun z => z.1 c_1, rfl⟩⟩
  refine V_iload_n X dX8_nodeAt_4 rfl ?_
  refine V_aload_n X dX8_nodeAt_5 rfl rfl ?_
  apply V_get X dX8_nodeAt_6 fk_X8_10
  · exact at_root
  · exact rfl
  apply V_callV0 X dX8_nodeAt_9 mk_X8_59 iv_Jx4a65c_size_8abf5 (k_szr l (m.1) (c.1) (by decide) rfl rfl)
  · exact ll_o ((m.1).ov rfl rfl)
  · exact rfl
  · exact Nat.le_of_ble_eq_true rfl
  · exact ⟨Nat.le_of_ble_eq_true rfl, Nat.le_of_ble_eq_true rfl⟩
  · exact ⟨by dsimp only [rmm]; omega, by dsimp only [rmm]; omega⟩
  rintro r I1 ⟨rfl, rfl⟩
  refine V_icmp_ge X dX8_nodeAt_12 29 (by decide) (fun c_12 => ?_) (fun c_12 => ?_)
  · refine V_null X dX8_nodeAt_29 ?_
    refine V_aret X dX8_nodeAt_30 (Or.inl ⟨_, rfl⟩) rfl ?_ ?_ ?_
    · dsimp only [rmm]; omega
    · dsimp only [rmm]; omega
    exact ⟨rfl, Or.inr ⟨fun z => le_ge c_12 z.2, rfl⟩⟩
  refine V_aload_n X dX8_nodeAt_15 rfl rfl ?_
  apply V_get X dX8_nodeAt_16 fk_X8_10
  · exact at_root
  · exact rfl
  refine V_iload_n X dX8_nodeAt_19 rfl ?_
  apply V_callV1 X dX8_nodeAt_20 mk_X8_119 iv_Jx4a65c_get_915e3 (k_gtr l (m.1) (c.1) (by decide) rfl rfl c_1 (Decidable.byContradiction fun q => c_12 (ge_le q)))
  · exact ll_o ((m.1).ov rfl rfl)
  · exact rfl
  · exact Nat.le_of_ble_eq_true rfl
  · exact ⟨Nat.le_of_ble_eq_true rfl, Nat.le_of_ble_eq_true rfl⟩
  · exact ⟨by dsimp only [rmm]; omega, by dsimp only [rmm]; omega⟩
  rintro r I1 ⟨rfl, rfl⟩
  apply V_cast (ci := 4) X dX8_nodeAt_23 cl_X8_49
  · exact rfl
  · exact at_node (jx_of c_1 (Decidable.byContradiction fun q => c_12 (ge_le q))).2
  refine V_goto X dX8_nodeAt_26 30 (by decide) ?_
  refine V_aret X dX8_nodeAt_30 (Or.inl ⟨_, rfl⟩) rfl ?_ ?_ ?_
  · dsimp only [rmm]; omega
  · dsimp only [rmm]; omega
  exact ⟨rfl, Or.inl ⟨⟨c_1, Decidable.byContradiction fun q => c_12 (ge_le q)⟩, rfl⟩⟩
set_option maxRecDepth 100000 in
set_option maxHeartbeats 4000000 in
theorem k_msAt (l : Launch) {S : St} {J : aH} {s : Int32} (c : CT S) (m : ML S J) : AM l yX8_messageAt cX8_messageAt 2 (some (.object "WatchServer$Message")) (rmm 3 0 0 64) [.ref rO, .int s] (ovc S J) (fun r I' => I' = ovc S J ∧ ((isMs S s ∧ r = some (.ref (kd 8 (nn s) 0))) ∨ (¬ isMs S s ∧ r = some .null))) := by
  refine AM_of RX8 (by decide) rfl [some (.ref rO), some (.int s)] rfl (Nat.le_of_ble_eq_true rfl) (fun Z X hNm => ?_)
  refine V_iload_n X dX8_messageAt_0 rfl ?_
  refine V_if_lt X dX8_messageAt_1 29 (by decide) (fun c_1 => ?_) (fun c_1 => ?_)
  · refine V_null X dX8_messageAt_29 ?_
    refine V_aret X dX8_messageAt_30 (Or.inl ⟨_, rfl⟩) rfl ?_ ?_ ?_
    · dsimp only [rmm]; omega
    · dsimp only [rmm]; omega
    exact ⟨rfl, Or.inr ⟨fun z => z.1 c_1, rfl⟩⟩
  refine V_iload_n X dX8_messageAt_4 rfl ?_
  refine V_aload_n X dX8_messageAt_5 rfl rfl ?_
  apply V_get X dX8_messageAt_6 fk_X8_28
  · exact at_root
  · exact rfl
  apply V_callV0 X dX8_messageAt_9 mk_X8_59 iv_Jx4a65c_size_8abf5 (k_szr l (m.2.2.2.2.2) (c.2.2.2.2.2) (by decide) rfl rfl)
  · exact ll_o ((m.2.2.2.2.2).ov rfl rfl)
  · exact rfl
  · exact Nat.le_of_ble_eq_true rfl
  · exact ⟨Nat.le_of_ble_eq_true rfl, Nat.le_of_ble_eq_true rfl⟩
  · exact ⟨by dsimp only [rmm]; omega, by dsimp only [rmm]; omega⟩
  rintro r I1 ⟨rfl, rfl⟩
  refine V_icmp_ge X dX8_messageAt_12 29 (by decide) (fun c_12 => ?_) (fun c_12 => ?_)
  · refine V_null X dX8_messageAt_29 ?_
    refine V_aret X dX8_messageAt_30 (Or.inl ⟨_, rfl⟩) rfl ?_ ?_ ?_
    · dsimp only [rmm]; omega
    · dsimp only [rmm]; omega
    exact ⟨rfl, Or.inr ⟨fun z => le_ge c_12 z.2, rfl⟩⟩
  refine V_aload_n X dX8_messageAt_15 rfl rfl ?_
  apply V_get X dX8_messageAt_16 fk_X8_28
  · exact at_root
  · exact rfl
  refine V_iload_n X dX8_messageAt_19 rfl ?_
  apply V_callV1 X dX8_messageAt_20 mk_X8_119 iv_Jx4a65c_get_915e3 (k_gtr l (m.2.2.2.2.2) (c.2.2.2.2.2) (by decide) rfl rfl c_1 (Decidable.byContradiction fun q => c_12 (ge_le q)))
  · exact ll_o ((m.2.2.2.2.2).ov rfl rfl)
  · exact rfl
  · exact Nat.le_of_ble_eq_true rfl
  · exact ⟨Nat.le_of_ble_eq_true rfl, Nat.le_of_ble_eq_true rfl⟩
  · exact ⟨by dsimp only [rmm]; omega, by dsimp only [rmm]; omega⟩
  rintro r I1 ⟨rfl, rfl⟩
  apply V_cast (ci := 3) X dX8_messageAt_23 cl_X8_250
  · exact rfl
  · exact at_ms (jx_of c_1 (Decidable.byContradiction fun q => c_12 (ge_le q))).2
  refine V_goto X dX8_messageAt_26 30 (by decide) ?_
  refine V_aret X dX8_messageAt_30 (Or.inl ⟨_, rfl⟩) rfl ?_ ?_ ?_
  · dsimp only [rmm]; omega
  · dsimp only [rmm]; omega
  exact ⟨rfl, Or.inl ⟨⟨c_1, Decidable.byContradiction fun q => c_12 (ge_le q)⟩, rfl⟩⟩
set_option maxRecDepth 100000 in
set_option maxHeartbeats 4000000 in
theorem k_subAt (l : Launch) {S : St} {J : aH} {s : Int32} (c : CT S) (m : ML S J) : AM l yX8_subscriptionAt cX8_subscriptionAt 3 (some (.object "WatchServer$Subscription")) (rmm 3 0 0 64) [.ref rO, .int s] (ovc S J) (fun r I' => I' = ovc S J ∧ (((isSub S s ∧ ¬ S.1 16 (nn s) = 0) ∧ r = some (.ref (kd 5 (nn s) 0))) ∨ (¬ (isSub S s ∧ ¬ S.1 16 (nn s) = 0) ∧ r = some .null))) := by
  refine AM_of RX8 (by decide) rfl [some (.ref rO), some (.int s), none] rfl (Nat.le_of_ble_eq_true rfl) (fun Z X hNm => ?_)
  refine V_iload_n X dX8_subscriptionAt_0 rfl ?_
  refine V_if_lt X dX8_subscriptionAt_1 15 (by decide) (fun c_1 => ?_) (fun c_1 => ?_)
  · refine V_null X dX8_subscriptionAt_15 ?_
    refine V_aret X dX8_subscriptionAt_16 (Or.inl ⟨_, rfl⟩) rfl ?_ ?_ ?_
    · dsimp only [rmm]; omega
    · dsimp only [rmm]; omega
    exact ⟨rfl, Or.inr ⟨fun z => z.1.1 c_1, rfl⟩⟩
  refine V_iload_n X dX8_subscriptionAt_4 rfl ?_
  refine V_aload_n X dX8_subscriptionAt_5 rfl rfl ?_
  apply V_get X dX8_subscriptionAt_6 fk_X8_22
  · exact at_root
  · exact rfl
  apply V_callV0 X dX8_subscriptionAt_9 mk_X8_59 iv_Jx4a65c_size_8abf5 (k_szr l (m.2.2.2.1) (c.2.2.2.1) (by decide) rfl rfl)
  · exact ll_o ((m.2.2.2.1).ov rfl rfl)
  · exact rfl
  · exact Nat.le_of_ble_eq_true rfl
  · exact ⟨Nat.le_of_ble_eq_true rfl, Nat.le_of_ble_eq_true rfl⟩
  · exact ⟨by dsimp only [rmm]; omega, by dsimp only [rmm]; omega⟩
  rintro r I1 ⟨rfl, rfl⟩
  refine V_icmp_lt X dX8_subscriptionAt_12 17 (by decide) (fun c_12 => ?_) (fun c_12 => ?_)
  · refine V_aload_n X dX8_subscriptionAt_17 rfl rfl ?_
    apply V_get X dX8_subscriptionAt_18 fk_X8_22
    · exact at_root
    · exact rfl
    refine V_iload_n X dX8_subscriptionAt_21 rfl ?_
    apply V_callV1 X dX8_subscriptionAt_22 mk_X8_119 iv_Jx4a65c_get_915e3 (k_gtr l (m.2.2.2.1) (c.2.2.2.1) (by decide) rfl rfl c_1 c_12)
    · exact ll_o ((m.2.2.2.1).ov rfl rfl)
    · exact rfl
    · exact Nat.le_of_ble_eq_true rfl
    · exact ⟨Nat.le_of_ble_eq_true rfl, Nat.le_of_ble_eq_true rfl⟩
    · exact ⟨by dsimp only [rmm]; omega, by dsimp only [rmm]; omega⟩
    rintro r I1 ⟨rfl, rfl⟩
    apply V_cast (ci := 8) X dX8_subscriptionAt_25 cl_X8_138
    · exact rfl
    · exact at_sub (jx_of c_1 c_12).2
    refine V_astore_n X dX8_subscriptionAt_28 (by decide) rfl rfl ?_
    refine V_aload_n X dX8_subscriptionAt_29 rfl rfl ?_
    apply V_get X dX8_subscriptionAt_30 fk_X8_319
    · exact at_sub ((jx_of c_1 c_12).2)
    · exact rfl
    refine V_if_eq X dX8_subscriptionAt_33 40 (by decide) (fun c_33 => ?_) (fun c_33 => ?_)
    · refine V_aload_n X dX8_subscriptionAt_40 rfl rfl ?_
      refine V_aret X dX8_subscriptionAt_41 (Or.inl ⟨_, rfl⟩) rfl ?_ ?_ ?_
      · dsimp only [rmm]; omega
      · dsimp only [rmm]; omega
      exact ⟨rfl, Or.inl ⟨⟨⟨c_1, c_12⟩, gb_1 c_33⟩, rfl⟩⟩
    refine V_null X dX8_subscriptionAt_36 ?_
    refine V_goto X dX8_subscriptionAt_37 41 (by decide) ?_
    refine V_aret X dX8_subscriptionAt_41 (Or.inl ⟨_, rfl⟩) rfl ?_ ?_ ?_
    · dsimp only [rmm]; omega
    · dsimp only [rmm]; omega
    exact ⟨rfl, Or.inr ⟨fun z => z.2 (gb_0 c_33), rfl⟩⟩
  refine V_null X dX8_subscriptionAt_15 ?_
  refine V_aret X dX8_subscriptionAt_16 (Or.inl ⟨_, rfl⟩) rfl ?_ ?_ ?_
  · dsimp only [rmm]; omega
  · dsimp only [rmm]; omega
  exact ⟨rfl, Or.inr ⟨fun z => c_12 z.1.2, rfl⟩⟩
set_option maxRecDepth 100000 in
set_option maxHeartbeats 4000000 in
theorem k_itAt (l : Launch) {S : St} {J : aH} {s : Int32} (c : CT S) (m : ML S J) : AM l yX8_itemAt cX8_itemAt 3 (some (.object "WatchServer$Item")) (rmm 3 0 0 64) [.ref rO, .int s] (ovc S J) (fun r I' => I' = ovc S J ∧ (((isIt S s ∧ ¬ S.1 33 (nn s) = 0) ∧ r = some (.ref (kd 6 (nn s) 0))) ∨ (¬ (isIt S s ∧ ¬ S.1 33 (nn s) = 0) ∧ r = some .null))) := by
  refine AM_of RX8 (by decide) rfl [some (.ref rO), some (.int s), none] rfl (Nat.le_of_ble_eq_true rfl) (fun Z X hNm => ?_)
  refine V_iload_n X dX8_itemAt_0 rfl ?_
  refine V_if_lt X dX8_itemAt_1 15 (by decide) (fun c_1 => ?_) (fun c_1 => ?_)
  · refine V_null X dX8_itemAt_15 ?_
    refine V_aret X dX8_itemAt_16 (Or.inl ⟨_, rfl⟩) rfl ?_ ?_ ?_
    · dsimp only [rmm]; omega
    · dsimp only [rmm]; omega
    exact ⟨rfl, Or.inr ⟨fun z => z.1.1 c_1, rfl⟩⟩
  refine V_iload_n X dX8_itemAt_4 rfl ?_
  refine V_aload_n X dX8_itemAt_5 rfl rfl ?_
  apply V_get X dX8_itemAt_6 fk_X8_25
  · exact at_root
  · exact rfl
  apply V_callV0 X dX8_itemAt_9 mk_X8_59 iv_Jx4a65c_size_8abf5 (k_szr l (m.2.2.2.2.1) (c.2.2.2.2.1) (by decide) rfl rfl)
  · exact ll_o ((m.2.2.2.2.1).ov rfl rfl)
  · exact rfl
  · exact Nat.le_of_ble_eq_true rfl
  · exact ⟨Nat.le_of_ble_eq_true rfl, Nat.le_of_ble_eq_true rfl⟩
  · exact ⟨by dsimp only [rmm]; omega, by dsimp only [rmm]; omega⟩
  rintro r I1 ⟨rfl, rfl⟩
  refine V_icmp_lt X dX8_itemAt_12 17 (by decide) (fun c_12 => ?_) (fun c_12 => ?_)
  · refine V_aload_n X dX8_itemAt_17 rfl rfl ?_
    apply V_get X dX8_itemAt_18 fk_X8_25
    · exact at_root
    · exact rfl
    refine V_iload_n X dX8_itemAt_21 rfl ?_
    apply V_callV1 X dX8_itemAt_22 mk_X8_119 iv_Jx4a65c_get_915e3 (k_gtr l (m.2.2.2.2.1) (c.2.2.2.2.1) (by decide) rfl rfl c_1 c_12)
    · exact ll_o ((m.2.2.2.2.1).ov rfl rfl)
    · exact rfl
    · exact Nat.le_of_ble_eq_true rfl
    · exact ⟨Nat.le_of_ble_eq_true rfl, Nat.le_of_ble_eq_true rfl⟩
    · exact ⟨by dsimp only [rmm]; omega, by dsimp only [rmm]; omega⟩
    rintro r I1 ⟨rfl, rfl⟩
    apply V_cast (ci := 2) X dX8_itemAt_25 cl_X8_183
    · exact rfl
    · exact at_it (jx_of c_1 c_12).2
    refine V_astore_n X dX8_itemAt_28 (by decide) rfl rfl ?_
    refine V_aload_n X dX8_itemAt_29 rfl rfl ?_
    apply V_get X dX8_itemAt_30 fk_X8_322
    · exact at_it ((jx_of c_1 c_12).2)
    · exact rfl
    refine V_if_eq X dX8_itemAt_33 40 (by decide) (fun c_33 => ?_) (fun c_33 => ?_)
    · refine V_aload_n X dX8_itemAt_40 rfl rfl ?_
      refine V_aret X dX8_itemAt_41 (Or.inl ⟨_, rfl⟩) rfl ?_ ?_ ?_
      · dsimp only [rmm]; omega
      · dsimp only [rmm]; omega
      exact ⟨rfl, Or.inl ⟨⟨⟨c_1, c_12⟩, gb_1 c_33⟩, rfl⟩⟩
    refine V_null X dX8_itemAt_36 ?_
    refine V_goto X dX8_itemAt_37 41 (by decide) ?_
    refine V_aret X dX8_itemAt_41 (Or.inl ⟨_, rfl⟩) rfl ?_ ?_ ?_
    · dsimp only [rmm]; omega
    · dsimp only [rmm]; omega
    exact ⟨rfl, Or.inr ⟨fun z => z.2 (gb_0 c_33), rfl⟩⟩
  refine V_null X dX8_itemAt_15 ?_
  refine V_aret X dX8_itemAt_16 (Or.inl ⟨_, rfl⟩) rfl ?_ ?_ ?_
  · dsimp only [rmm]; omega
  · dsimp only [rmm]; omega
  exact ⟨rfl, Or.inr ⟨fun z => c_12 z.1.2, rfl⟩⟩
def KD (S : St) : Prop := ∀ i, i < nn (S.1 1 0) → sm (S.1 2 i) 2
theorem kd_pos {S : St} {n : Int32} (K : KD S) (h : isN S n) (hk : ¬ S.1 2 (nn n) = 0) : 0 < S.1 2 (nn n) := by
  obtain ⟨e, hb⟩ := K _ (jx_of h.1 h.2).2
  rw [e] at hk ⊢
  generalize nn (S.1 2 (nn n)) = q at *
  rw [fa_lt, nI_toInt (by omega), i0]
  rcases Nat.eq_zero_or_pos q with z | z
  · rw [z] at hk
    exact absurd rfl hk
  · omega
set_option maxRecDepth 100000 in
set_option maxHeartbeats 4000000 in
theorem k_varAt (l : Launch) {S : St} {J : aH} {s : Int32} (c : CT S) (m : ML S J) (K : KD S) : AM l yX8_variableAt cX8_variableAt 3 (some (.object "WatchServer$Node")) (rmm 4 0 0 85) [.ref rO, .int s] (ovc S J) (fun r I' => I' = ovc S J ∧ ((isVr S s ∧ r = some (.ref (kd 2 (nn s) 0))) ∨ (¬ isVr S s ∧ r = some .null))) := by
  refine AM_of RX8 (by decide) rfl [some (.ref rO), some (.int s), none] rfl (Nat.le_of_ble_eq_true rfl) (fun Z X hNm => ?_)
  refine V_aload_n X dX8_variableAt_0 rfl rfl ?_
  refine V_iload_n X dX8_variableAt_1 rfl ?_
  apply V_callV1 X dX8_variableAt_2 mk_X8_70 iv_X8_nodeAt (k_nodeAt l c m)
  · exact at_root
  · exact rfl
  · exact Nat.le_of_ble_eq_true rfl
  · exact ⟨Nat.le_of_ble_eq_true rfl, Nat.le_of_ble_eq_true rfl⟩
  · exact ⟨by dsimp only [rmm]; omega, by dsimp only [rmm]; omega⟩
  rintro r I1 ⟨rfl, ⟨hn, rfl⟩ | ⟨hn, rfl⟩⟩
  · refine V_astore_n X dX8_variableAt_5 (by decide) rfl rfl ?_
    refine V_aload_n X dX8_variableAt_6 rfl rfl ?_
    refine V_ifnull X dX8_variableAt_7 ?_
    refine V_aload_n X dX8_variableAt_10 rfl rfl ?_
    apply V_get X dX8_variableAt_11 fk_X8_134
    · exact at_node ((jx_of hn.1 hn.2).2)
    · exact rfl
    refine V_if_ne X dX8_variableAt_14 21 (by decide) (fun c_14 => ?_) (fun c_14 => ?_)
    · refine V_aload_n X dX8_variableAt_21 rfl rfl ?_
      refine V_aret X dX8_variableAt_22 (Or.inl ⟨_, rfl⟩) rfl ?_ ?_ ?_
      · dsimp only [rmm]; omega
      · dsimp only [rmm]; omega
      exact ⟨rfl, Or.inl ⟨⟨hn, kd_pos K hn c_14⟩, rfl⟩⟩
    refine V_null X dX8_variableAt_17 ?_
    refine V_goto X dX8_variableAt_18 22 (by decide) ?_
    refine V_aret X dX8_variableAt_22 (Or.inl ⟨_, rfl⟩) rfl ?_ ?_ ?_
    · dsimp only [rmm]; omega
    · dsimp only [rmm]; omega
    exact ⟨rfl, Or.inr ⟨fun z => by have := z.2; rw [c_14] at this; exact absurd this (by decide), rfl⟩⟩
  refine V_astore_n X dX8_variableAt_5 (by decide) rfl rfl ?_
  refine V_aload_n X dX8_variableAt_6 rfl rfl ?_
  refine V_ifnullN X dX8_variableAt_7 17 (by decide) ?_
  refine V_null X dX8_variableAt_17 ?_
  refine V_goto X dX8_variableAt_18 22 (by decide) ?_
  refine V_aret X dX8_variableAt_22 (Or.inl ⟨_, rfl⟩) rfl ?_ ?_ ?_
  · dsimp only [rmm]; omega
  · dsimp only [rmm]; omega
  exact ⟨rfl, Or.inr ⟨fun z => hn z.1, rfl⟩⟩
/-- who belongs to whom -/
def OW (S : St) : Prop := (∀ b, b < nn (S.1 15 0) → sm (S.1 17 b) 11 ∧ nn (S.1 17 b) < nn (S.1 8 0)) ∧ (∀ i, i < nn (S.1 32 0) → sm (S.1 34 i) 19 ∧ nn (S.1 34 i) < nn (S.1 15 0) ∧ sm (S.1 35 i) 39 ∧ nn (S.1 35 i) < nn (S.1 1 0))
theorem ne_ses {S : St} {J : aH} {i : Nat} (h : i < nn (S.1 8 0)) : ovc S J (kd 4 i 0) ≠ none := by rw [at_ses h]; exact Option.some_ne_none _
theorem ne_sub {S : St} {J : aH} {i : Nat} (h : i < nn (S.1 15 0)) : ovc S J (kd 5 i 0) ≠ none := by rw [at_sub h]; exact Option.some_ne_none _
theorem ne_it {S : St} {J : aH} {i : Nat} (h : i < nn (S.1 32 0)) : ovc S J (kd 6 i 0) ≠ none := by rw [at_it h]; exact Option.some_ne_none _
theorem own_eq {x s : Int32} {b : Nat} (hx : sm x b) (hs : s = nI (nn s)) (e : kd 4 (nn x) 0 = kd 4 (nn s) 0) : x = s := by
  rw [hx.1, hs, (kd_eq.mp e).2.1]
theorem own_ne {x s : Int32} (e : x = s) : kd 4 (nn x) 0 = kd 4 (nn s) 0 := by rw [e]
theorem ses_ix {S : St} {s : Int32} (h : isSes S s) : s = nI (nn s) ∧ nn s < nn (S.1 8 0) := jx_of h.1 h.2
theorem sub_ix {S : St} {s : Int32} (h : isSub S s) : s = nI (nn s) ∧ nn s < nn (S.1 15 0) := jx_of h.1 h.2
theorem it_ix {S : St} {s : Int32} (h : isIt S s) : s = nI (nn s) ∧ nn s < nn (S.1 32 0) := jx_of h.1 h.2
theorem n_ix {S : St} {s : Int32} (h : isN S s) : s = nI (nn s) ∧ nn s < nn (S.1 1 0) := jx_of h.1 h.2
theorem ms_ix {S : St} {s : Int32} (h : isMs S s) : s = nI (nn s) ∧ nn s < nn (S.1 48 0) := jx_of h.1 h.2
set_option maxRecDepth 100000 in
set_option maxHeartbeats 4000000 in
theorem k_subOf (l : Launch) {S : St} {J : aH} {s b : Int32} (c : CT S) (m : ML S J) (ow : OW S) (hs : isSes S s) : AM l yX8_subscriptionOf cX8_subscriptionOf 4 (some (.object "WatchServer$Subscription")) (rmm 4 0 0 86) [.ref rO, .ref (kd 4 (nn s) 0), .int b] (ovc S J) (fun r I' => I' = ovc S J ∧ ((okB S s b ∧ r = some (.ref (kd 5 (nn b) 0))) ∨ (¬ okB S s b ∧ r = some .null))) := by
  refine AM_of RX8 (by decide) rfl [some (.ref rO), some (.ref (kd 4 (nn s) 0)), some (.int b), none] rfl (Nat.le_of_ble_eq_true rfl) (fun Z X hNm => ?_)
  refine V_aload_n X dX8_subscriptionOf_0 rfl rfl ?_
  refine V_iload_n X dX8_subscriptionOf_1 rfl ?_
  apply V_callV1 X dX8_subscriptionOf_2 mk_X8_171 iv_X8_subscriptionAt (k_subAt l c m)
  · exact at_root
  · exact rfl
  · exact Nat.le_of_ble_eq_true rfl
  · exact ⟨Nat.le_of_ble_eq_true rfl, Nat.le_of_ble_eq_true rfl⟩
  · exact ⟨by dsimp only [rmm]; omega, by dsimp only [rmm]; omega⟩
  rintro r I1 ⟨rfl, ⟨hb, rfl⟩ | ⟨hb, rfl⟩⟩
  · refine V_astore_n X dX8_subscriptionOf_5 (by decide) rfl rfl ?_
    refine V_aload_n X dX8_subscriptionOf_6 rfl rfl ?_
    refine V_ifnull X dX8_subscriptionOf_7 ?_
    refine V_aload_n X dX8_subscriptionOf_10 rfl rfl ?_
    apply V_get X dX8_subscriptionOf_11 fk_X8_175
    · exact at_sub ((sub_ix hb.1).2)
    · exact rfl
    refine V_aload_n X dX8_subscriptionOf_14 rfl rfl ?_
    refine V_acmp_eq X dX8_subscriptionOf_15 22 (by decide) (Or.inl (ne_ses (ow.1 _ (sub_ix hb.1).2).2)) (Or.inl (ne_ses (ses_ix hs).2)) (fun c_15 => ?_) (fun c_15 => ?_)
    · refine V_aload_n X dX8_subscriptionOf_22 rfl rfl ?_
      refine V_aret X dX8_subscriptionOf_23 (Or.inl ⟨_, rfl⟩) rfl ?_ ?_ ?_
      · dsimp only [rmm]; omega
      · dsimp only [rmm]; omega
      exact ⟨rfl, Or.inl ⟨⟨hb, own_eq (ow.1 _ (sub_ix hb.1).2).1 (ses_ix hs).1 c_15⟩, rfl⟩⟩
    refine V_null X dX8_subscriptionOf_18 ?_
    refine V_goto X dX8_subscriptionOf_19 23 (by decide) ?_
    refine V_aret X dX8_subscriptionOf_23 (Or.inl ⟨_, rfl⟩) rfl ?_ ?_ ?_
    · dsimp only [rmm]; omega
    · dsimp only [rmm]; omega
    exact ⟨rfl, Or.inr ⟨fun z => c_15 (own_ne z.2), rfl⟩⟩
  refine V_astore_n X dX8_subscriptionOf_5 (by decide) rfl rfl ?_
  refine V_aload_n X dX8_subscriptionOf_6 rfl rfl ?_
  refine V_ifnullN X dX8_subscriptionOf_7 18 (by decide) ?_
  refine V_null X dX8_subscriptionOf_18 ?_
  refine V_goto X dX8_subscriptionOf_19 23 (by decide) ?_
  refine V_aret X dX8_subscriptionOf_23 (Or.inl ⟨_, rfl⟩) rfl ?_ ?_ ?_
  · dsimp only [rmm]; omega
  · dsimp only [rmm]; omega
  exact ⟨rfl, Or.inr ⟨fun z => hb z.1, rfl⟩⟩
set_option maxRecDepth 100000 in
set_option maxHeartbeats 4000000 in
theorem k_itOf (l : Launch) {S : St} {J : aH} {s b : Int32} (c : CT S) (m : ML S J) (ow : OW S) (hs : isSes S s) : AM l yX8_itemOfClient cX8_itemOfClient 4 (some (.object "WatchServer$Item")) (rmm 4 0 0 86) [.ref rO, .ref (kd 4 (nn s) 0), .int b] (ovc S J) (fun r I' => I' = ovc S J ∧ ((okI S s b ∧ r = some (.ref (kd 6 (nn b) 0))) ∨ (¬ okI S s b ∧ r = some .null))) := by
  refine AM_of RX8 (by decide) rfl [some (.ref rO), some (.ref (kd 4 (nn s) 0)), some (.int b), none] rfl (Nat.le_of_ble_eq_true rfl) (fun Z X hNm => ?_)
  refine V_aload_n X dX8_itemOfClient_0 rfl rfl ?_
  refine V_iload_n X dX8_itemOfClient_1 rfl ?_
  apply V_callV1 X dX8_itemOfClient_2 mk_X8_301 iv_X8_itemAt (k_itAt l c m)
  · exact at_root
  · exact rfl
  · exact Nat.le_of_ble_eq_true rfl
  · exact ⟨Nat.le_of_ble_eq_true rfl, Nat.le_of_ble_eq_true rfl⟩
  · exact ⟨by dsimp only [rmm]; omega, by dsimp only [rmm]; omega⟩
  rintro r I1 ⟨rfl, ⟨hb, rfl⟩ | ⟨hb, rfl⟩⟩
  · refine V_astore_n X dX8_itemOfClient_5 (by decide) rfl rfl ?_
    refine V_aload_n X dX8_itemOfClient_6 rfl rfl ?_
    refine V_ifnull X dX8_itemOfClient_7 ?_
    refine V_aload_n X dX8_itemOfClient_10 rfl rfl ?_
    apply V_get X dX8_itemOfClient_11 fk_X8_207
    · exact at_it ((it_ix hb.1).2)
    · exact rfl
    apply V_get X dX8_itemOfClient_14 fk_X8_175
    · exact at_sub ((ow.2 _ (it_ix hb.1).2).2.1)
    · exact rfl
    refine V_aload_n X dX8_itemOfClient_17 rfl rfl ?_
    refine V_acmp_eq X dX8_itemOfClient_18 25 (by decide) (Or.inl (ne_ses (ow.1 _ (ow.2 _ (it_ix hb.1).2).2.1).2)) (Or.inl (ne_ses (ses_ix hs).2)) (fun c_18 => ?_) (fun c_18 => ?_)
    · refine V_aload_n X dX8_itemOfClient_25 rfl rfl ?_
      refine V_aret X dX8_itemOfClient_26 (Or.inl ⟨_, rfl⟩) rfl ?_ ?_ ?_
      · dsimp only [rmm]; omega
      · dsimp only [rmm]; omega
      exact ⟨rfl, Or.inl ⟨⟨hb, own_eq (ow.1 _ (ow.2 _ (it_ix hb.1).2).2.1).1 (ses_ix hs).1 c_18⟩, rfl⟩⟩
    refine V_null X dX8_itemOfClient_21 ?_
    refine V_goto X dX8_itemOfClient_22 26 (by decide) ?_
    refine V_aret X dX8_itemOfClient_26 (Or.inl ⟨_, rfl⟩) rfl ?_ ?_ ?_
    · dsimp only [rmm]; omega
    · dsimp only [rmm]; omega
    exact ⟨rfl, Or.inr ⟨fun z => c_18 (own_ne z.2), rfl⟩⟩
  refine V_astore_n X dX8_itemOfClient_5 (by decide) rfl rfl ?_
  refine V_aload_n X dX8_itemOfClient_6 rfl rfl ?_
  refine V_ifnullN X dX8_itemOfClient_7 21 (by decide) ?_
  refine V_null X dX8_itemOfClient_21 ?_
  refine V_goto X dX8_itemOfClient_22 26 (by decide) ?_
  refine V_aret X dX8_itemOfClient_26 (Or.inl ⟨_, rfl⟩) rfl ?_ ?_ ?_
  · dsimp only [rmm]; omega
  · dsimp only [rmm]; omega
  exact ⟨rfl, Or.inr ⟨fun z => hb z.1, rfl⟩⟩
set_option maxRecDepth 100000 in
set_option maxHeartbeats 4000000 in
theorem k_renew (l : Launch) {S : St} {J : aH} {i : Nat} {t : Int32} (h : i < nn (S.1 8 0)) : AM l yX6_renew cX6_renew 2 none (rmm 0 0 0 0) [.ref (kd 4 i 0), .int t] (ovc S J) (fun r I' => r = none ∧ I' = ovc (pa S 10 i (t + S.1 9 i)) J) := by
  refine AM_of RX6 (by decide) rfl [some (.ref (kd 4 i 0)), some (.int t)] rfl (Nat.le_of_ble_eq_true rfl) (fun Z X hNm => ?_)
  refine V_aload_n X dX6_renew_0 rfl rfl ?_
  refine V_iload_n X dX6_renew_1 rfl ?_
  refine V_aload_n X dX6_renew_2 rfl rfl ?_
  apply V_get X dX6_renew_3 fk_X6_26
  · exact at_ses (by assumption)
  · exact rfl
  refine V_iadd X dX6_renew_6 ?_
  refine P4_4 X dX6_renew_7 fk_X6_29 (by assumption) ?_
  refine V_vret X dX6_renew_10 ?_ ?_ ?_
  · dsimp only [rmm]; omega
  · dsimp only [rmm]; omega
  exact ⟨rfl, rfl⟩
abbrev entP (S : St) (s : Int32) : St := pa S 10 (nn s) (S.1 0 0 + S.1 9 (nn s))
theorem lack_0 {S : St} {s : Int32} (h : isSes S s) (h1 : S.1 11 (nn s) = 1) : lackS S s = 0 := by rw [lackS, if_pos h, if_pos h1]
theorem lack_s {S : St} {s : Int32} (h : lackS S s = 0) : isSes S s := by
  by_cases q : isSes S s
  · exact q
  · rw [lackS, if_neg q] at h
    exact absurd h (by decide)
theorem lack_n {S : St} {s : Int32} (h : ¬ isSes S s) : ¬ lackS S s = 0 := fun q => h (lack_s q)
theorem lack_1 {S : St} {s : Int32} (h : isSes S s) (h1 : ¬ S.1 11 (nn s) = 1) : ¬ lackS S s = 0 := by
  rw [lackS, if_pos h, if_neg h1]
  split <;> decide
theorem ent_0 {S : St} {s : Int32} (h : lackS S s = 0) : entS S s = entP S s := if_pos h
theorem ent_1 {S : St} {s : Int32} (h : ¬ lackS S s = 0) : entS S s = S := if_neg h
theorem lack_ge {S : St} {s : Int32} : 0 ≤ lackS S s ↔ lackS S s = 0 := by
  unfold lackS
  split
  · split
    · simp
    · split <;> decide
  · decide
set_option maxRecDepth 100000 in
set_option maxHeartbeats 4000000 in
theorem k_enter (l : Launch) {S : St} {J : aH} {s : Int32} (c : CT S) (m : ML S J) : AM l yX8_enter cX8_enter 3 (some (.object "WatchServer$Session")) (rmm 4 0 0 85) [.ref rO, .int s] (ovc S J) (fun r I' => (lackS S s = 0 ∧ r = some (.ref (kd 4 (nn s) 0)) ∧ I' = ovc (entP S s) J) ∨ (¬ lackS S s = 0 ∧ r = some .null ∧ I' = ovc S J)) := by
  refine AM_of RX8 (by decide) rfl [some (.ref rO), some (.int s), none] rfl (Nat.le_of_ble_eq_true rfl) (fun Z X hNm => ?_)
  refine V_aload_n X dX8_enter_0 rfl rfl ?_
  refine V_iload_n X dX8_enter_1 rfl ?_
  apply V_callV1 X dX8_enter_2 mk_X8_98 iv_X8_sessionAt (k_sesAt l c m)
  · exact at_root
  · exact rfl
  · exact Nat.le_of_ble_eq_true rfl
  · exact ⟨Nat.le_of_ble_eq_true rfl, Nat.le_of_ble_eq_true rfl⟩
  · exact ⟨by dsimp only [rmm]; omega, by dsimp only [rmm]; omega⟩
  rintro r I1 ⟨rfl, ⟨hs, rfl⟩ | ⟨hs, rfl⟩⟩
  · have hi := (ses_ix hs).2
    refine V_astore_n X dX8_enter_5 (by decide) rfl rfl ?_
    refine V_aload_n X dX8_enter_6 rfl rfl ?_
    refine V_ifnull X dX8_enter_7 ?_
    refine V_aload_n X dX8_enter_10 rfl rfl ?_
    apply V_get X dX8_enter_11 fk_X8_102
    · exact at_ses (by assumption)
    · exact rfl
    refine V_iconst (v := 1) X dX8_enter_14 (by decide) ?_
    refine V_icmp_eq X dX8_enter_15 20 (by decide) (fun c_15 => ?_) (fun c_15 => ?_)
    · refine V_aload_n X dX8_enter_20 rfl rfl ?_
      refine V_aload_n X dX8_enter_21 rfl rfl ?_
      apply V_get X dX8_enter_22 fk_X8_35
      · exact at_root
      · exact rfl
      apply V_callV1 X dX8_enter_25 mk_X8_108 iv_X6_renew (k_renew l hi)
      · exact at_ses (by assumption)
      · exact rfl
      · exact Nat.le_of_ble_eq_true rfl
      · exact ⟨Nat.le_of_ble_eq_true rfl, Nat.le_of_ble_eq_true rfl⟩
      · exact ⟨by dsimp only [rmm]; omega, by dsimp only [rmm]; omega⟩
      rintro r I1 ⟨rfl, rfl⟩
      refine V_aload_n X dX8_enter_28 rfl rfl ?_
      refine V_aret X dX8_enter_29 (Or.inl ⟨_, rfl⟩) rfl ?_ ?_ ?_
      · dsimp only [rmm]; omega
      · dsimp only [rmm]; omega
      exact Or.inl ⟨lack_0 hs c_15, rfl, rfl⟩
    refine V_null X dX8_enter_18 ?_
    refine V_aret X dX8_enter_19 (Or.inl ⟨_, rfl⟩) rfl ?_ ?_ ?_
    · dsimp only [rmm]; omega
    · dsimp only [rmm]; omega
    exact Or.inr ⟨lack_1 hs c_15, rfl, rfl⟩
  refine V_astore_n X dX8_enter_5 (by decide) rfl rfl ?_
  refine V_aload_n X dX8_enter_6 rfl rfl ?_
  refine V_ifnullN X dX8_enter_7 18 (by decide) ?_
  refine V_null X dX8_enter_18 ?_
  refine V_aret X dX8_enter_19 (Or.inl ⟨_, rfl⟩) rfl ?_ ?_ ?_
  · dsimp only [rmm]; omega
  · dsimp only [rmm]; omega
  exact Or.inr ⟨lack_n hs, rfl, rfl⟩
set_option maxRecDepth 100000 in
set_option maxHeartbeats 4000000 in
theorem k_refS (l : Launch) {S : St} {J : aH} {s : Int32} (c : CT S) (m : ML S J) (hl : ¬ S.1 11 (nn s) = 1 ∨ ¬ isSes S s) : AM l yX8_refuseSession cX8_refuseSession 3 (some .int) (rmm 4 0 0 85) [.ref rO, .int s] (ovc S J) (fun r I' => r = some (.int (lackS S s)) ∧ I' = ovc (rfw S (lackS S s)) J) := by
  refine AM_of RX8 (by decide) rfl [some (.ref rO), some (.int s), none] rfl (Nat.le_of_ble_eq_true rfl) (fun Z X hNm => ?_)
  refine V_aload_n X dX8_refuseSession_0 rfl rfl ?_
  refine V_iload_n X dX8_refuseSession_1 rfl ?_
  apply V_callV1 X dX8_refuseSession_2 mk_X8_98 iv_X8_sessionAt (k_sesAt l c m)
  · exact at_root
  · exact rfl
  · exact Nat.le_of_ble_eq_true rfl
  · exact ⟨Nat.le_of_ble_eq_true rfl, Nat.le_of_ble_eq_true rfl⟩
  · exact ⟨by dsimp only [rmm]; omega, by dsimp only [rmm]; omega⟩
  rintro r I1 ⟨rfl, ⟨hs, rfl⟩ | ⟨hs, rfl⟩⟩
  · have hi := (ses_ix hs).2
    have hl1 : ¬ S.1 11 (nn s) = 1 := hl.elim id (fun q => absurd hs q)
    refine V_astore_n X dX8_refuseSession_5 (by decide) rfl rfl ?_
    refine V_aload_n X dX8_refuseSession_6 rfl rfl ?_
    refine V_ifnonnull X dX8_refuseSession_7 16 (by decide) ?_
    refine V_aload_n X dX8_refuseSession_16 rfl rfl ?_
    refine V_aload_n X dX8_refuseSession_17 rfl rfl ?_
    apply V_get X dX8_refuseSession_18 fk_X8_102
    · exact at_ses (by assumption)
    · exact rfl
    refine V_iconst (v := 2) X dX8_refuseSession_21 (by decide) ?_
    refine V_icmp_ne X dX8_refuseSession_22 30 (by decide) (fun c_22 => ?_) (fun c_22 => ?_)
    · refine V_bipush (v := (-3)) X dX8_refuseSession_30 (by decide) ?_
      apply V_callV1 X dX8_refuseSession_32 mk_X8_55 iv_X8_refuse (k_refuse l (by unfold vp_in; decide) (by decide))
      · exact at_root
      · exact rfl
      · exact Nat.le_of_ble_eq_true rfl
      · exact ⟨Nat.le_of_ble_eq_true rfl, Nat.le_of_ble_eq_true rfl⟩
      · exact ⟨by dsimp only [rmm]; omega, by dsimp only [rmm]; omega⟩
      rintro r I1 ⟨rfl, rfl⟩
      refine V_iret X dX8_refuseSession_35 ?_ ?_ ?_ ?_
      · exact rfl
      · dsimp only [rmm]; omega
      · dsimp only [rmm]; omega
      have e : lackS S s = -3 := by rw [lackS, if_pos hs, if_neg hl1, if_neg c_22]
      rw [e]; exact ⟨rfl, rfl⟩
    refine V_bipush (v := (-2)) X dX8_refuseSession_25 (by decide) ?_
    refine V_goto X dX8_refuseSession_27 32 (by decide) ?_
    apply V_callV1 X dX8_refuseSession_32 mk_X8_55 iv_X8_refuse (k_refuse l (by unfold vp_in; decide) (by decide))
    · exact at_root
    · exact rfl
    · exact Nat.le_of_ble_eq_true rfl
    · exact ⟨Nat.le_of_ble_eq_true rfl, Nat.le_of_ble_eq_true rfl⟩
    · exact ⟨by dsimp only [rmm]; omega, by dsimp only [rmm]; omega⟩
    rintro r I1 ⟨rfl, rfl⟩
    refine V_iret X dX8_refuseSession_35 ?_ ?_ ?_ ?_
    · exact rfl
    · dsimp only [rmm]; omega
    · dsimp only [rmm]; omega
    have e : lackS S s = -2 := by rw [lackS, if_pos hs, if_neg hl1, if_pos c_22]
    rw [e]; exact ⟨rfl, rfl⟩
  refine V_astore_n X dX8_refuseSession_5 (by decide) rfl rfl ?_
  refine V_aload_n X dX8_refuseSession_6 rfl rfl ?_
  refine V_ifnonnullN X dX8_refuseSession_7 ?_
  refine V_aload_n X dX8_refuseSession_10 rfl rfl ?_
  refine V_iconst (v := (-1)) X dX8_refuseSession_11 (by decide) ?_
  apply V_callV1 X dX8_refuseSession_12 mk_X8_55 iv_X8_refuse (k_refuse l (by unfold vp_in; decide) (by decide))
  · exact at_root
  · exact rfl
  · exact Nat.le_of_ble_eq_true rfl
  · exact ⟨Nat.le_of_ble_eq_true rfl, Nat.le_of_ble_eq_true rfl⟩
  · exact ⟨by dsimp only [rmm]; omega, by dsimp only [rmm]; omega⟩
  rintro r I1 ⟨rfl, rfl⟩
  refine V_iret X dX8_refuseSession_15 ?_ ?_ ?_ ?_
  · exact rfl
  · dsimp only [rmm]; omega
  · dsimp only [rmm]; omega
  have e : lackS S s = -1 := by rw [lackS, if_neg hs]
  rw [e]; exact ⟨rfl, rfl⟩
