def bt (x : Int32) (i : Nat) : Bool := x.toBitVec.getLsbD i
theorem b_ext {x y : Int32} (h : ∀ i, i < 32 → bt x i = bt y i) : x = y := Int32.toBitVec_inj.mp (BitVec.eq_of_getLsbD_eq (fun i hi => h i hi))
theorem b_and (x y : Int32) (i : Nat) : bt (x &&& y) i = (bt x i && bt y i) := by unfold bt; rw [Int32.toBitVec_and, BitVec.getLsbD_and]
theorem s_l : ∀ n, n < 32 → ((nI n &&& 31).toBitVec.smod 32).toNat = n := by decide +kernel
theorem s_u : ∀ n, n < 32 → (((nI n).toUInt32 &&& Int32.toUInt32 31).toBitVec % 32).toNat = n := by decide +kernel
theorem b_ushr (n : Nat) (hn : n < 32) (x : Int32) (i : Nat) : bt ((x.toUInt32 >>> ((nI n).toUInt32 &&& Int32.toUInt32 31)).toInt32) i = bt x (n + i) := by
  show (x.toUInt32 >>> ((nI n).toUInt32 &&& Int32.toUInt32 31)).toBitVec.getLsbD i = x.toUInt32.toBitVec.getLsbD (n + i)
  rw [UInt32.toBitVec_shiftRight]
  show (x.toUInt32.toBitVec >>> (((nI n).toUInt32 &&& Int32.toUInt32 31).toBitVec % 32).toNat).getLsbD i = _
  rw [s_u n hn, BitVec.getLsbD_ushiftRight]
theorem b_sshr (n : Nat) (hn : n < 32) (x : Int32) {i : Nat} (hi : i < 32) : bt (x >>> (nI n &&& 31)) i = if n + i < 32 then bt x (n + i) else bt x 31 := by
  unfold bt
  rw [Int32.toBitVec_shiftRight]
  show (x.toBitVec.sshiftRight ((nI n &&& 31).toBitVec.smod 32).toNat).getLsbD i = _
  rw [s_l n hn, BitVec.getLsbD_sshiftRight, BitVec.msb_eq_getLsbD_last]
  simp [hi]
theorem bt_1 : ∀ i, i < 32 → bt 1 i = decide (i = 0) := by decide +kernel
theorem shr1 (x : Int32) {t : Int32} {n : Nat} (ht : t = nI n) (hn : n < 32) : (x.toUInt32 >>> (t.toUInt32 &&& Int32.toUInt32 31)).toInt32 &&& 1 = (x >>> (t &&& 31)) &&& 1 := by
  subst ht
  refine b_ext fun i hi => ?_
  rw [b_and, b_and, b_ushr n hn, b_sshr n hn x hi, bt_1 i hi]
  by_cases q : i = 0
  · subst q
    rw [if_pos (by omega)]
  · rw [decide_eq_false q, Bool.and_false, Bool.and_false]
/-- the references' types -/
def RT (S : St) : Prop := ∀ r, r < nn (S.1 4 0) → sm (S.1 7 r) 7
theorem RT.cg {S S' : St} (c : RT S) (a : S'.1 4 0 = S.1 4 0 := by rfl) (b : S'.1 7 = S.1 7 := by rfl) : RT S' := by
  unfold RT at *
  rw [a, b]
  exact c
theorem oe_eq {S : St} {n way : Int32} {y : Nat} (h : bgP S n way y ∨ enP S n way y) : (if S.1 5 y = n then S.1 6 y else S.1 5 y) = (if bgP S n way y then S.1 6 y else S.1 5 y) := by
  by_cases q : S.1 5 y = n
  · rw [if_pos q]
    by_cases z : bgP S n way y
    · rw [if_pos z]
    · rw [if_neg z, q]
      exact (h.resolve_left z).1
  · rw [if_neg q, if_neg (fun z => q z.1)]
set_option maxRecDepth 100000 in
set_option maxHeartbeats 4000000 in
theorem k_touch (l : Launch) {S : St} {J : aH} {i : Nat} {n way : Int32} (h : i < nn (S.1 4 0)) : AM l yX5_touches cX5_touches 3 (some .boolean) (rmm 0 0 0 0) [.ref (kd 3 i 0), .int n, .int way] (ovc S J) (fun r I' => r = some (.int (if bgP S n way i ∨ enP S n way i then 1 else 0)) ∧ I' = ovc S J) := by
  refine AM_of RX5 (by decide) rfl [some (.ref (kd 3 i 0)), some (.int n), some (.int way)] rfl (Nat.le_of_ble_eq_true rfl) (fun Z X hNm => ?_)
  refine V_iload_n X dX5_touches_0 rfl ?_
  refine V_iconst (v := 1) X dX5_touches_1 (by decide) ?_
  refine V_icmp_eq X dX5_touches_2 13 (by decide) (fun c_2 => ?_) (fun c_2 => ?_)
  · refine V_iload_n X dX5_touches_13 rfl ?_
    refine V_if_eq X dX5_touches_14 29 (by decide) (fun c_14 => ?_) (fun c_14 => ?_)
    · refine V_iconst (v := 0) X dX5_touches_29 (by decide) ?_
      refine V_iret X dX5_touches_30 ?_ ?_ ?_ ?_
      · exact rfl
      · dsimp only [rmm]; omega
      · dsimp only [rmm]; omega
      exact ⟨by rw [if_neg (fun q => q.elim (fun z => z.2 c_2) (fun z => z.2 c_14))], rfl⟩
    refine V_aload_n X dX5_touches_17 rfl rfl ?_
    apply V_get X dX5_touches_18 fk_X5_13
    · exact at_ref (h)
    · exact rfl
    refine V_iload_n X dX5_touches_21 rfl ?_
    refine V_icmp_ne X dX5_touches_22 29 (by decide) (fun c_22 => ?_) (fun c_22 => ?_)
    · refine V_iconst (v := 0) X dX5_touches_29 (by decide) ?_
      refine V_iret X dX5_touches_30 ?_ ?_ ?_ ?_
      · exact rfl
      · dsimp only [rmm]; omega
      · dsimp only [rmm]; omega
      exact ⟨by rw [if_neg (fun q => q.elim (fun z => z.2 c_2) (fun z => c_22 z.1))], rfl⟩
    refine V_iconst (v := 1) X dX5_touches_25 (by decide) ?_
    refine V_goto X dX5_touches_26 30 (by decide) ?_
    refine V_iret X dX5_touches_30 ?_ ?_ ?_ ?_
    · exact rfl
    · dsimp only [rmm]; omega
    · dsimp only [rmm]; omega
    exact ⟨by rw [if_pos (Or.inr ⟨c_22, c_14⟩)], rfl⟩
  refine V_aload_n X dX5_touches_5 rfl rfl ?_
  apply V_get X dX5_touches_6 fk_X5_7
  · exact at_ref (h)
  · exact rfl
  refine V_iload_n X dX5_touches_9 rfl ?_
  refine V_icmp_eq X dX5_touches_10 25 (by decide) (fun c_10 => ?_) (fun c_10 => ?_)
  · refine V_iconst (v := 1) X dX5_touches_25 (by decide) ?_
    refine V_goto X dX5_touches_26 30 (by decide) ?_
    refine V_iret X dX5_touches_30 ?_ ?_ ?_ ?_
    · exact rfl
    · dsimp only [rmm]; omega
    · dsimp only [rmm]; omega
    exact ⟨by rw [if_pos (Or.inl ⟨c_10, c_2⟩)], rfl⟩
  refine V_iload_n X dX5_touches_13 rfl ?_
  refine V_if_eq X dX5_touches_14 29 (by decide) (fun c_14 => ?_) (fun c_14 => ?_)
  · refine V_iconst (v := 0) X dX5_touches_29 (by decide) ?_
    refine V_iret X dX5_touches_30 ?_ ?_ ?_ ?_
    · exact rfl
    · dsimp only [rmm]; omega
    · dsimp only [rmm]; omega
    exact ⟨by rw [if_neg (fun q => q.elim (fun z => c_10 z.1) (fun z => z.2 c_14))], rfl⟩
  refine V_aload_n X dX5_touches_17 rfl rfl ?_
  apply V_get X dX5_touches_18 fk_X5_13
  · exact at_ref (h)
  · exact rfl
  refine V_iload_n X dX5_touches_21 rfl ?_
  refine V_icmp_ne X dX5_touches_22 29 (by decide) (fun c_22 => ?_) (fun c_22 => ?_)
  · refine V_iconst (v := 0) X dX5_touches_29 (by decide) ?_
    refine V_iret X dX5_touches_30 ?_ ?_ ?_ ?_
    · exact rfl
    · dsimp only [rmm]; omega
    · dsimp only [rmm]; omega
    exact ⟨by rw [if_neg (fun q => q.elim (fun z => c_10 z.1) (fun z => c_22 z.1))], rfl⟩
  refine V_iconst (v := 1) X dX5_touches_25 (by decide) ?_
  refine V_goto X dX5_touches_26 30 (by decide) ?_
  refine V_iret X dX5_touches_30 ?_ ?_ ?_ ?_
  · exact rfl
  · dsimp only [rmm]; omega
  · dsimp only [rmm]; omega
  exact ⟨by rw [if_pos (Or.inr ⟨c_22, c_14⟩)], rfl⟩
set_option maxRecDepth 100000 in
set_option maxHeartbeats 4000000 in
theorem k_among (l : Launch) {S : St} {J : aH} {i : Nat} {ty : Int32} (h : i < nn (S.1 4 0)) (rt : RT S) : AM l yX5_isAmong cX5_isAmong 2 (some .boolean) (rmm 0 0 0 0) [.ref (kd 3 i 0), .int ty] (ovc S J) (fun r I' => r = some (.int (if (ty >>> (S.1 7 i &&& 31)) &&& 1 = 1 then 1 else 0)) ∧ I' = ovc S J) := by
  have e7 := shr1 ty (rt _ h).1 (by have := (rt _ h).2; omega)
  refine AM_of RX5 (by decide) rfl [some (.ref (kd 3 i 0)), some (.int ty)] rfl (Nat.le_of_ble_eq_true rfl) (fun Z X hNm => ?_)
  refine V_iload_n X dX5_isAmong_0 rfl ?_
  refine V_aload_n X dX5_isAmong_1 rfl rfl ?_
  apply V_get X dX5_isAmong_2 fk_X5_16
  · exact at_ref (h)
  · exact rfl
  refine V_iushr X dX5_isAmong_5 ?_
  refine V_iconst (v := 1) X dX5_isAmong_6 (by decide) ?_
  refine V_iand X dX5_isAmong_7 ?_
  refine V_iconst (v := 1) X dX5_isAmong_8 (by decide) ?_
  refine V_icmp_ne X dX5_isAmong_9 16 (by decide) (fun c_9 => ?_) (fun c_9 => ?_)
  · refine V_iconst (v := 0) X dX5_isAmong_16 (by decide) ?_
    refine V_iret X dX5_isAmong_17 ?_ ?_ ?_ ?_
    · exact rfl
    · dsimp only [rmm]; omega
    · dsimp only [rmm]; omega
    exact ⟨by rw [if_neg (fun q => c_9 (e7.trans q))], rfl⟩
  refine V_iconst (v := 1) X dX5_isAmong_12 (by decide) ?_
  refine V_goto X dX5_isAmong_13 17 (by decide) ?_
  refine V_iret X dX5_isAmong_17 ?_ ?_ ?_ ?_
  · exact rfl
  · dsimp only [rmm]; omega
  · dsimp only [rmm]; omega
  exact ⟨by rw [if_pos (e7.symm.trans c_9)], rfl⟩
set_option maxRecDepth 100000 in
set_option maxHeartbeats 4000000 in
theorem k_other (l : Launch) {S : St} {J : aH} {i : Nat} {n : Int32} (h : i < nn (S.1 4 0)) : AM l yX5_otherEnd cX5_otherEnd 2 (some .int) (rmm 0 0 0 0) [.ref (kd 3 i 0), .int n] (ovc S J) (fun r I' => r = some (.int (if S.1 5 i = n then S.1 6 i else S.1 5 i)) ∧ I' = ovc S J) := by
  refine AM_of RX5 (by decide) rfl [some (.ref (kd 3 i 0)), some (.int n)] rfl (Nat.le_of_ble_eq_true rfl) (fun Z X hNm => ?_)
  refine V_aload_n X dX5_otherEnd_0 rfl rfl ?_
  apply V_get X dX5_otherEnd_1 fk_X5_7
  · exact at_ref (h)
  · exact rfl
  refine V_iload_n X dX5_otherEnd_4 rfl ?_
  refine V_icmp_ne X dX5_otherEnd_5 15 (by decide) (fun c_5 => ?_) (fun c_5 => ?_)
  · refine V_aload_n X dX5_otherEnd_15 rfl rfl ?_
    apply V_get X dX5_otherEnd_16 fk_X5_7
    · exact at_ref (h)
    · exact rfl
    refine V_iret X dX5_otherEnd_19 ?_ ?_ ?_ ?_
    · exact rfl
    · dsimp only [rmm]; omega
    · dsimp only [rmm]; omega
    exact ⟨by rw [if_neg c_5], rfl⟩
  refine V_aload_n X dX5_otherEnd_8 rfl rfl ?_
  apply V_get X dX5_otherEnd_9 fk_X5_13
  · exact at_ref (h)
  · exact rfl
  refine V_goto X dX5_otherEnd_12 19 (by decide) ?_
  refine V_iret X dX5_otherEnd_19 ?_ ?_ ?_ ?_
  · exact rfl
  · dsimp only [rmm]; omega
  · dsimp only [rmm]; omega
  exact ⟨by rw [if_pos c_5], rfl⟩
set_option maxRecDepth 100000 in
set_option maxHeartbeats 4000000 in
theorem br9_loop {l : Launch} {Z : Zt} {S T : St} {Q : Nat → List Nat} {J : aH} {s n way ty i : Int32} {N : Nat} (hN : N ≤ 100) (eN : nn (T.1 4 0) = N) (h1 : LL J 20 1 (rg 3 N)) (eo : op_browse S s n way ty i = if ¬ i < 0 ∧ brF T n way ty i < nn (T.1 4 0) then (T, if bgP T n way (brF T n way ty i) then T.1 6 (brF T n way ty i) else T.1 5 (brF T n way ty i)) else rr T (-9)) (R : RJ T Q J) (c : CT T) (rt : RT T) (X : Fx Z l (rmm 5 0 0 107) cX8_browse 9 RX8 (some .int) (RES (op_browse S s n way ty i) J)) : ∀ (m y : Nat) (fd : Int32) (o8 : Option Value), N - y < m → y ≤ N → fd = nI (cn (brB T n way ty) y) → (∀ j, j < y → brB T n way ty j = true → ¬ nI (cn (brB T n way ty) j) = i) → (match o8 with | some (.long _) => False | some (.double _) => False | _ => True) → V Z 9 (ovc T J) [some (.ref rO), some (.int s), some (.int n), some (.int way), some (.int ty), some (.int i), some (.int fd), some (.int (nI y)), o8] [] 0 0 51
  | 0, _, _, _, _, _, _, _, _ => absurd (by assumption) (Nat.not_lt_zero _)
  | m + 1, y, fd, o8, hm, hy, hfd, hin, h8 => by
    refine V_iload X dX8_browse_51 rfl ?_
    refine V_aload_n X dX8_browse_53 rfl rfl ?_
    apply V_get X dX8_browse_54 fk_X8_16
    · exact at_root
    · exact rfl
    apply V_callV0 X dX8_browse_57 mk_X8_59 iv_Jx4a65c_size_8abf5 (k_size l (x := nI N) (h1.ov rfl rfl) (by rw [rg_len]))
    · exact ll_o (h1.ov rfl rfl)
    · exact rfl
    · exact Nat.le_of_ble_eq_true rfl
    · exact ⟨Nat.le_of_ble_eq_true rfl, Nat.le_of_ble_eq_true rfl⟩
    · exact ⟨by dsimp only [rmm]; omega, by dsimp only [rmm]; omega⟩
    rintro r I1 ⟨rfl, rfl⟩
    refine V_icmp_ge X dX8_browse_60 120 (by decide) (fun c_60 => ?_) (fun c_60 => ?_)
    · have hx2 : y = N := by
        rcases Nat.lt_or_ge y (N) with z | z
        · exact absurd c_60 (nI_ge z (by omega))
        · omega
      refine V_aload_n X dX8_browse_120 rfl rfl ?_
      refine V_bipush (v := (-9)) X dX8_browse_121 (by decide) ?_
      apply V_callV1 X dX8_browse_123 mk_X8_55 iv_X8_refuse (k_refuse l (S := T) (by unfold vp_in; decide) (by decide))
      · exact at_root
      · exact rfl
      · exact Nat.le_of_ble_eq_true rfl
      · exact ⟨Nat.le_of_ble_eq_true rfl, Nat.le_of_ble_eq_true rfl⟩
      · exact ⟨by dsimp only [rmm]; omega, by dsimp only [rmm]; omega⟩
      rintro r I1 ⟨rfl, rfl⟩
      refine V_iret X dX8_browse_126 ?_ ?_ ?_ ?_
      · exact rfl
      · dsimp only [rmm]; omega
      · dsimp only [rmm]; omega
      have hc : ¬ (¬ i < 0 ∧ brF T n way ty i < nn (T.1 4 0)) := fun q => by
        obtain ⟨q1, q2⟩ := kthB_iff.mp ((frs_spec _ _).2.2 q.2)
        refine hin _ (by have := q.2; unfold brF at this; omega) q1 ?_
        rw [q2]
        obtain ⟨k, hk, ek⟩ := nI_of q.1
        rw [ek, nnI hk]
      rw [if_neg hc] at eo
      exact RES.of eo R.cg FJ.rf
    have hlt : y < N := by
      rcases Nat.lt_or_ge y (N) with z | z
      · exact z
      · exact absurd (nI_le z (by omega)) c_60
    refine V_aload_n X dX8_browse_63 rfl rfl ?_
    apply V_get X dX8_browse_64 fk_X8_16
    · exact at_root
    · exact rfl
    refine V_iload X dX8_browse_67 rfl ?_
    apply V_callV1 X dX8_browse_69 mk_X8_119 iv_Jx4a65c_get_915e3 (k_gti l h1 (by omega) rfl rfl hlt)
    · exact ll_o (h1.ov rfl rfl)
    · exact rfl
    · exact Nat.le_of_ble_eq_true rfl
    · exact ⟨Nat.le_of_ble_eq_true rfl, Nat.le_of_ble_eq_true rfl⟩
    · exact ⟨by dsimp only [rmm]; omega, by dsimp only [rmm]; omega⟩
    rintro r I1 ⟨rfl, rfl⟩
    apply V_cast (ci := 6) X dX8_browse_72 cl_X8_74
    · exact rfl
    · exact at_ref (by omega)
    refine V_astore X dX8_browse_75 (by decide) rfl rfl ?_
    refine V_aload X dX8_browse_77 rfl rfl ?_
    refine V_iload_n X dX8_browse_79 rfl ?_
    refine V_iload_n X dX8_browse_80 rfl ?_
    apply V_callV2 X dX8_browse_81 mk_X8_123 iv_X5_touches (k_touch l (S := T) (by omega))
    · exact at_ref (by omega)
    · exact rfl
    · exact Nat.le_of_ble_eq_true rfl
    · exact ⟨Nat.le_of_ble_eq_true rfl, Nat.le_of_ble_eq_true rfl⟩
    · exact ⟨by dsimp only [rmm]; omega, by dsimp only [rmm]; omega⟩
    rintro r I1 ⟨rfl, rfl⟩
    refine V_if_eq X dX8_browse_84 114 (by decide) (fun c_84 => ?_) (fun c_84 => ?_)
    · have h_84 := bz_f c_84
      refine V_iinc X dX8_browse_114 rfl (by decide) rfl (nI (y + 1)) (nI_1 y) ?_
      refine V_goto X dX8_browse_117 51 (by decide) ?_
      have hnp : ¬ brB T n way ty y = true := fun q => h_84 (brB_iff.mp q).2
      refine br9_loop hN eN h1 eo R c rt X m (y + 1) _ _ (by omega) (by omega) ?_ (upto hin (fun z => absurd z hnp)) trivial
      rw [cn_f hnp, hfd]
    have h_84 := bz_t c_84
    refine V_aload X dX8_browse_87 rfl rfl ?_
    refine V_iload X dX8_browse_89 rfl ?_
    apply V_callV1 X dX8_browse_91 mk_X8_127 iv_X5_isAmong (k_among l (S := T) (by omega) rt)
    · exact at_ref (by omega)
    · exact rfl
    · exact Nat.le_of_ble_eq_true rfl
    · exact ⟨Nat.le_of_ble_eq_true rfl, Nat.le_of_ble_eq_true rfl⟩
    · exact ⟨by dsimp only [rmm]; omega, by dsimp only [rmm]; omega⟩
    rintro r I1 ⟨rfl, rfl⟩
    refine V_if_eq X dX8_browse_94 114 (by decide) (fun c_94 => ?_) (fun c_94 => ?_)
    · have h_94 := bz_f c_94
      refine V_iinc X dX8_browse_114 rfl (by decide) rfl (nI (y + 1)) (nI_1 y) ?_
      refine V_goto X dX8_browse_117 51 (by decide) ?_
      have hnp : ¬ brB T n way ty y = true := fun q => h_94 (brB_iff.mp q).1
      refine br9_loop hN eN h1 eo R c rt X m (y + 1) _ _ (by omega) (by omega) ?_ (upto hin (fun z => absurd z hnp)) trivial
      rw [cn_f hnp, hfd]
    have h_94 := bz_t c_94
    refine V_iload X dX8_browse_97 rfl ?_
    refine V_iload X dX8_browse_99 rfl ?_
    refine V_icmp_ne X dX8_browse_101 111 (by decide) (fun c_101 => ?_) (fun c_101 => ?_)
    · refine V_iinc X dX8_browse_111 rfl (by decide) rfl _ rfl ?_
      refine V_iinc X dX8_browse_114 rfl (by decide) rfl (nI (y + 1)) (nI_1 y) ?_
      refine V_goto X dX8_browse_117 51 (by decide) ?_
      have hp : brB T n way ty y = true := brB_iff.mpr ⟨h_94, h_84⟩
      refine br9_loop hN eN h1 eo R c rt X m (y + 1) _ _ (by omega) (by omega) ?_ (upto hin (fun _ => fun z => c_101 (by rw [hfd]; exact z))) trivial
      rw [cn_t hp, hfd]; exact nI_1 _
    refine V_aload X dX8_browse_104 rfl rfl ?_
    refine V_iload_n X dX8_browse_106 rfl ?_
    apply V_callV1 X dX8_browse_107 mk_X8_131 iv_X5_otherEnd (k_other l (S := T) (by omega))
    · exact at_ref (by omega)
    · exact rfl
    · exact Nat.le_of_ble_eq_true rfl
    · exact ⟨Nat.le_of_ble_eq_true rfl, Nat.le_of_ble_eq_true rfl⟩
    · exact ⟨by dsimp only [rmm]; omega, by dsimp only [rmm]; omega⟩
    rintro r I1 ⟨rfl, rfl⟩
    refine V_iret X dX8_browse_110 ?_ ?_ ?_ ?_
    · exact rfl
    · dsimp only [rmm]; omega
    · dsimp only [rmm]; omega
    have hcy := cn_le (p := brB T n way ty) y
    have ei : i = nI (cn (brB T n way ty) y) := c_101.symm.trans hfd
    have hi0 : ¬ i < 0 := by rw [ei, fa_lt, nI_toInt (by omega), i0]; omega
    have hni : nn i = cn (brB T n way ty) y := by rw [ei]; exact nnI (by omega)
    have e : brF T n way ty i = y := by
      unfold brF
      rw [eN, hni]
      refine frs_eq hlt (kthB_iff.mpr ⟨brB_iff.mpr ⟨h_94, h_84⟩, rfl⟩) (fun j hj q => ?_)
      obtain ⟨q1, q2⟩ := kthB_iff.mp q
      exact hin j hj q1 (by rw [q2]; exact ei.symm)
    rw [oe_eq h_84]
    rw [if_pos ⟨hi0, by rw [e, eN]; exact hlt⟩, e] at eo
    exact RES.of eo R FJ.rf
set_option maxRecDepth 100000 in
set_option maxHeartbeats 4000000 in
theorem k_browse (l : Launch) {S : St} {Q : Nat → List Nat} {J : aH} {s n way ty i : Int32} (c : CT S) (R : RJ S Q J) (rt : RT S) : AM l yX8_browse cX8_browse 9 (some .int) (rmm 5 0 0 107) [.ref rO, .int s, .int n, .int way, .int ty, .int i] (ovc S J) (RES (op_browse S s n way ty i) J) := by
  refine AM_of RX8 (by decide) rfl [some (.ref rO), some (.int s), some (.int n), some (.int way), some (.int ty), some (.int i), none, none, none] rfl (Nat.le_of_ble_eq_true rfl) (fun Z X hNm => ?_)
  refine V_aload_n X dX8_browse_0 rfl rfl ?_
  refine V_iload_n X dX8_browse_1 rfl ?_
  apply V_callV1 X dX8_browse_2 mk_X8_112 iv_X8_enter (k_enter l c R.ml)
  · exact at_root
  · exact rfl
  · exact Nat.le_of_ble_eq_true rfl
  · exact ⟨Nat.le_of_ble_eq_true rfl, Nat.le_of_ble_eq_true rfl⟩
  · exact ⟨by dsimp only [rmm]; omega, by dsimp only [rmm]; omega⟩
  rintro r I1 (⟨hl, rfl, rfl⟩ | ⟨hl, rfl, rfl⟩)
  · have hs := lack_s hl
    have hi := (ses_ix hs).2
    have R1 : RJ (entP S s) Q J := R.cg
    have m1 := R1.ml
    have c1 : CT (entP S s) := c.cg
    refine V_ifnonnull X dX8_browse_5 14 (by decide) ?_
    refine V_aload_n X dX8_browse_14 rfl rfl ?_
    refine V_iload_n X dX8_browse_15 rfl ?_
    apply V_callV1 X dX8_browse_16 mk_X8_70 iv_X8_nodeAt (k_nodeAt l (S := entP S s) c1 m1)
    · exact at_root
    · exact rfl
    · exact Nat.le_of_ble_eq_true rfl
    · exact ⟨Nat.le_of_ble_eq_true rfl, Nat.le_of_ble_eq_true rfl⟩
    · exact ⟨by dsimp only [rmm]; omega, by dsimp only [rmm]; omega⟩
    rintro r I1 ⟨rfl, ⟨hn, rfl⟩ | ⟨hn, rfl⟩⟩
    · refine V_ifnonnull X dX8_browse_19 29 (by decide) ?_
      refine V_iload_n X dX8_browse_29 rfl ?_
      refine V_iconst (v := 0) X dX8_browse_30 (by decide) ?_
      refine V_iconst (v := 2) X dX8_browse_31 (by decide) ?_
      refine V_callS3 X dX8_browse_32 mk_X8_51 st_X8_isWithin (k_within l way 0 2) (Nat.le_of_ble_eq_true rfl) ⟨Nat.le_of_ble_eq_true rfl, Nat.le_of_ble_eq_true rfl⟩ ?_ ?_
      · exact ⟨by dsimp only [rmm]; omega, by dsimp only [rmm]; omega⟩
      rintro r I1 ⟨rfl, rfl⟩
      refine V_if_ne X dX8_browse_35 45 (by decide) (fun c_35 => ?_) (fun c_35 => ?_)
      · have h_35 := bz_t c_35
        refine V_iconst (v := 0) X dX8_browse_45 (by decide) ?_
        refine V_istore X dX8_browse_46 (by decide) rfl ?_
        refine V_iconst (v := 0) X dX8_browse_48 (by decide) ?_
        refine V_istore X dX8_browse_49 (by decide) rfl ?_
        exact br9_loop (S := S) (T := entP S s) (ct_nn c1.2.1 (by decide)).1 rfl m1.2.1 (by rw [op_browse, if_pos (lack_ge.mpr hl), ent_0 hl, if_pos hn, if_pos h_35]) R1 c1 (rt.cg (S' := entP S s)) X (nn ((entP S s).1 4 0) + 1) 0 0 none (by omega) (Nat.zero_le _) rfl (fun j hj => absurd hj (Nat.not_lt_zero _)) trivial
      have h_35 := bz_f c_35
      refine V_aload_n X dX8_browse_38 rfl rfl ?_
      refine V_bipush (v := (-7)) X dX8_browse_39 (by decide) ?_
      apply V_callV1 X dX8_browse_41 mk_X8_55 iv_X8_refuse (k_refuse l (S := entP S s) (by unfold vp_in; decide) (by decide))
      · exact at_root
      · exact rfl
      · exact Nat.le_of_ble_eq_true rfl
      · exact ⟨Nat.le_of_ble_eq_true rfl, Nat.le_of_ble_eq_true rfl⟩
      · exact ⟨by dsimp only [rmm]; omega, by dsimp only [rmm]; omega⟩
      rintro r I1 ⟨rfl, rfl⟩
      refine V_iret X dX8_browse_44 ?_ ?_ ?_ ?_
      · exact rfl
      · dsimp only [rmm]; omega
      · dsimp only [rmm]; omega
      exact RES.of (q := op_browse S s n way ty i) (by rw [op_browse, if_pos (lack_ge.mpr hl), ent_0 hl, if_pos hn, if_neg h_35] <;> rfl) R.cg FJ.rf
    refine V_ifnonnullN X dX8_browse_19 ?_
    refine V_aload_n X dX8_browse_22 rfl rfl ?_
    refine V_bipush (v := (-4)) X dX8_browse_23 (by decide) ?_
    apply V_callV1 X dX8_browse_25 mk_X8_55 iv_X8_refuse (k_refuse l (S := entP S s) (by unfold vp_in; decide) (by decide))
    · exact at_root
    · exact rfl
    · exact Nat.le_of_ble_eq_true rfl
    · exact ⟨Nat.le_of_ble_eq_true rfl, Nat.le_of_ble_eq_true rfl⟩
    · exact ⟨by dsimp only [rmm]; omega, by dsimp only [rmm]; omega⟩
    rintro r I1 ⟨rfl, rfl⟩
    refine V_iret X dX8_browse_28 ?_ ?_ ?_ ?_
    · exact rfl
    · dsimp only [rmm]; omega
    · dsimp only [rmm]; omega
    exact RES.of (q := op_browse S s n way ty i) (by rw [op_browse, if_pos (lack_ge.mpr hl), ent_0 hl, if_neg hn] <;> rfl) R.cg FJ.rf
  refine V_ifnonnullN X dX8_browse_5 ?_
  refine V_aload_n X dX8_browse_8 rfl rfl ?_
  refine V_iload_n X dX8_browse_9 rfl ?_
  apply V_callV1 X dX8_browse_10 mk_X8_105 iv_X8_refuseSession (k_refS l c R.ml (lack_no hl))
  · exact at_root
  · exact rfl
  · exact Nat.le_of_ble_eq_true rfl
  · exact ⟨Nat.le_of_ble_eq_true rfl, Nat.le_of_ble_eq_true rfl⟩
  · exact ⟨by dsimp only [rmm]; omega, by dsimp only [rmm]; omega⟩
  rintro r I1 ⟨rfl, rfl⟩
  refine V_iret X dX8_browse_13 ?_ ?_ ?_ ?_
  · exact rfl
  · dsimp only [rmm]; omega
  · dsimp only [rmm]; omega
  exact RES.of (q := op_browse S s n way ty i) (by rw [op_browse, if_neg (fun q => hl (lack_ge.mp q)), ent_1 hl] <;> rfl) R.cg FJ.rf
