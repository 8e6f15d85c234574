/-! kept messages by number, publishing -/
def frs (p : Nat → Bool) : Nat → Nat
  | 0 => 0
  | n + 1 => if frs p n < n then frs p n else if p n = true then n else n + 1
theorem frs_spec (p : Nat → Bool) : ∀ n, frs p n ≤ n ∧ (∀ j, j < frs p n → ¬ p j = true) ∧ (frs p n < n → p (frs p n) = true)
  | 0 => ⟨Nat.le_refl _, fun j h => absurd h (Nat.not_lt_zero _), fun h => absurd h (Nat.not_lt_zero _)⟩
  | n + 1 => by
    obtain ⟨h1, h2, h3⟩ := frs_spec p n
    rw [frs]
    by_cases c1 : frs p n < n
    · rw [if_pos c1]
      exact ⟨by omega, h2, fun _ => h3 c1⟩
    · rw [if_neg c1]
      by_cases c2 : p n = true
      · rw [if_pos c2]
        exact ⟨by omega, fun j hj => h2 j (by omega), fun _ => c2⟩
      · rw [if_neg c2]
        refine ⟨by omega, fun j hj => ?_, fun h => by omega⟩
        by_cases hjn : j = n
        · rw [hjn]; exact c2
        · exact h2 j (by omega)
theorem frs_eq {p : Nat → Bool} {n x : Nat} (hx : x < n) (hp : p x = true) (h : ∀ j, j < x → ¬ p j = true) : frs p n = x := by
  obtain ⟨h1, h2, h3⟩ := frs_spec p n
  rcases Nat.lt_trichotomy (frs p n) x with q | q | q
  · exact absurd (h3 (by omega)) (h _ q)
  · exact q
  · exact absurd hp (h2 x q)
theorem frs_no {p : Nat → Bool} {n : Nat} (h : ∀ j, j < n → ¬ p j = true) : frs p n = n := by
  obtain ⟨h1, h2, h3⟩ := frs_spec p n
  rcases Nat.lt_or_ge (frs p n) n with q | q
  · exact absurd (h3 q) (h _ q)
  · omega
theorem upto {p : Nat → Prop} {x : Nat} (h : ∀ j, j < x → p j) (hx : p x) : ∀ j, j < x + 1 → p j := fun j hj => by
  by_cases e : j = x
  · rw [e]; exact hx
  · exact h j (by omega)
abbrev fkP (S : St) (s num : Int32) (m : Nat) : Prop := ¬ S.1 54 m = 0 ∧ S.1 49 m = s ∧ S.1 50 m = num
def fkB (S : St) (s num : Int32) (m : Nat) : Bool := decide (fkP S s num m)
theorem fkB_iff {S : St} {s num : Int32} {m : Nat} : fkB S s num m = true ↔ fkP S s num m := decide_eq_true_iff
def fkS (S : St) (s num : Int32) : Int32 := if frs (fkB S s num) (nn (S.1 48 0)) < nn (S.1 48 0) then nI (frs (fkB S s num) (nn (S.1 48 0))) else -1
set_option maxRecDepth 100000 in
set_option maxHeartbeats 4000000 in
theorem fk_loop {l : Launch} {Z : Zt} {S : St} {J : aH} {s num : Int32} {M : Nat} (hM : M ≤ 900) (e48 : S.1 48 0 = nI M) (X : Fx Z l (rmm 0 0 0 0) cX9_findKept 4 RX9 (some .int) (fun r I' => r = some (.int (fkS S s num)) ∧ I' = ovl S J)) : ∀ (m x : Nat), M - x < m → x ≤ M → (∀ j, j < x → ¬ fkP S s num j) → V Z 4 (ovl S J) [some (.ref mO), some (.int s), some (.int num), some (.int (nI x))] [] 0 0 2
  | 0, _, _, _, _ => absurd (by assumption) (Nat.not_lt_zero _)
  | m + 1, x, hm, hx, hno => by
    refine V_iload_n X dX9_findKept_2 rfl ?_
    refine V_aload_n X dX9_findKept_3 rfl rfl ?_
    refine M_getiE (nI M) X dX9_findKept_4 fk_X9_205 (by decide) rfl (e48) ?_
    refine V_icmp_ge X dX9_findKept_7 47 (by decide) (fun c_7 => ?_) (fun c_7 => ?_)
    · have hx2 : x = M := by
        rcases Nat.lt_or_ge x (M) with z | z
        · exact absurd c_7 (nI_ge z (by omega))
        · omega
      refine V_iconst (v := (-1)) X dX9_findKept_47 (by decide) ?_
      refine V_iret X dX9_findKept_48 ?_ ?_ ?_ ?_
      · exact rfl
      · dsimp only [rmm]; omega
      · dsimp only [rmm]; omega
      refine ⟨?_, rfl⟩
      have e : frs (fkB S s num) (nn (S.1 48 0)) = nn (S.1 48 0) := frs_no (fun j hj q => hno j (by rw [e48, nnI (by omega)] at hj; omega) (fkB_iff.mp q))
      rw [fkS, e, if_neg (Nat.lt_irrefl _)]
    have hlt : x < M := by
      rcases Nat.lt_or_ge x (M) with z | z
      · exact z
      · exact absurd (nI_le z (by omega)) c_7
    refine V_aload_n X dX9_findKept_10 rfl rfl ?_
    refine M_geta X dX9_findKept_11 fk_X9_150 (by decide) rfl ?_
    refine V_iload_n X dX9_findKept_14 rfl ?_
    refine M_zaldN X dX9_findKept_15 (by decide) rfl (by omega) (by decide) ?_
    refine V_if_eq X dX9_findKept_16 41 (by decide) (fun c_16 => ?_) (fun c_16 => ?_)
    · refine V_iinc X dX9_findKept_41 rfl (by decide) rfl (nI (x + 1)) (nI_1 x) ?_
      refine V_goto X dX9_findKept_44 2 (by decide) ?_
      exact fk_loop hM e48 X m (x + 1) (by omega) (by omega) (upto hno (fun q => q.1 c_16))
    refine V_aload_n X dX9_findKept_19 rfl rfl ?_
    refine M_geta X dX9_findKept_20 fk_X9_135 (by decide) rfl ?_
    refine V_iload_n X dX9_findKept_23 rfl ?_
    refine M_ialdN X dX9_findKept_24 (by decide) rfl (by omega) (by decide) ?_
    refine V_iload_n X dX9_findKept_25 rfl ?_
    refine V_icmp_ne X dX9_findKept_26 41 (by decide) (fun c_26 => ?_) (fun c_26 => ?_)
    · refine V_iinc X dX9_findKept_41 rfl (by decide) rfl (nI (x + 1)) (nI_1 x) ?_
      refine V_goto X dX9_findKept_44 2 (by decide) ?_
      exact fk_loop hM e48 X m (x + 1) (by omega) (by omega) (upto hno (fun q => c_26 q.2.1))
    refine V_aload_n X dX9_findKept_29 rfl rfl ?_
    refine M_geta X dX9_findKept_30 fk_X9_138 (by decide) rfl ?_
    refine V_iload_n X dX9_findKept_33 rfl ?_
    refine M_ialdN X dX9_findKept_34 (by decide) rfl (by omega) (by decide) ?_
    refine V_iload_n X dX9_findKept_35 rfl ?_
    refine V_icmp_ne X dX9_findKept_36 41 (by decide) (fun c_36 => ?_) (fun c_36 => ?_)
    · refine V_iinc X dX9_findKept_41 rfl (by decide) rfl (nI (x + 1)) (nI_1 x) ?_
      refine V_goto X dX9_findKept_44 2 (by decide) ?_
      exact fk_loop hM e48 X m (x + 1) (by omega) (by omega) (upto hno (fun q => c_36 q.2.2))
    refine V_iload_n X dX9_findKept_39 rfl ?_
    refine V_iret X dX9_findKept_40 ?_ ?_ ?_ ?_
    · exact rfl
    · dsimp only [rmm]; omega
    · dsimp only [rmm]; omega
    refine ⟨?_, rfl⟩
    have e : frs (fkB S s num) (nn (S.1 48 0)) = x := frs_eq (by rw [e48, nnI (by omega)]; exact hlt) (fkB_iff.mpr ⟨c_16, c_26, c_36⟩) (fun j hj q => hno j hj (fkB_iff.mp q))
    rw [fkS, e, if_pos (by rw [e48, nnI (by omega)]; exact hlt)]
set_option maxRecDepth 100000 in
set_option maxHeartbeats 4000000 in
theorem c_findKept (l : Launch) {S : St} {J : aH} {s num : Int32} (h48 : ct S 48 900) : AM l yX9_findKept cX9_findKept 4 (some .int) (rmm 0 0 0 0) [.ref mO, .int s, .int num] (ovl S J) (fun r I' => r = some (.int (fkS S s num)) ∧ I' = ovl S J) := by
  obtain ⟨M, hM, e48⟩ := h48
  refine AM_of RX9 (by decide) rfl [some (.ref mO), some (.int s), some (.int num), none] rfl (Nat.le_of_ble_eq_true rfl) (fun Z X hNm => ?_)
  refine V_iconst (v := 0) X dX9_findKept_0 (by decide) ?_
  refine V_istore_n X dX9_findKept_1 (by decide) rfl ?_
  exact fk_loop hM e48 X (M + 1) 0 (by omega) (Nat.zero_le _) (fun j h => absurd h (Nat.not_lt_zero _))
def ackS (S : St) (s b n : Int32) : St × Int32 := if b = -1 then (S, 0) else if okB S s b then (if 0 ≤ fkS S b n then (pa S 54 (nn (fkS S b n)) 0, 1) else (S, -9)) else (S, -5)
theorem fkS_nat {S : St} {s num : Int32} (h : ct S 48 900) (h0 : 0 ≤ fkS S s num) : ∃ m, m < nn (S.1 48 0) ∧ m < 900 ∧ fkS S s num = nI m ∧ fkP S s num m ∧ ∀ j, j < m → ¬ fkP S s num j := by
  have hc := ct_nn h (by decide)
  obtain ⟨h1, h2, h3⟩ := frs_spec (fkB S s num) (nn (S.1 48 0))
  unfold fkS at h0 ⊢
  split at h0
  · rename_i hl
    rw [if_pos hl]
    exact ⟨_, hl, by omega, rfl, fkB_iff.mp (h3 hl), fun j hj q => h2 j hj (fkB_iff.mpr q)⟩
  · exact absurd h0 (by decide)
set_option maxRecDepth 100000 in
set_option maxHeartbeats 4000000 in
theorem c_ack (l : Launch) {S : St} {J : aH} {s b n : Int32} {c : Nat} (hI : Iv c S) : AM l yX9_acknowledge cX9_acknowledge 5 (some .int) (rmm 1 0 0 30) [.ref mO, .int s, .int b, .int n] (ovl S J) (fun r I' => r = some (.int (ackS S s b n).2) ∧ I' = ovl (ackS S s b n).1 J) := by
  obtain ⟨N, hN, e15⟩ := id hI.1.2.1
  refine AM_of RX9 (by decide) rfl [some (.ref mO), some (.int s), some (.int b), some (.int n), none] rfl (Nat.le_of_ble_eq_true rfl) (fun Z X hNm => ?_)
  refine V_iload_n X dX9_acknowledge_0 rfl ?_
  refine V_iconst (v := (-1)) X dX9_acknowledge_1 (by decide) ?_
  refine V_icmp_ne X dX9_acknowledge_2 7 (by decide) (fun c_2 => ?_) (fun c_2 => ?_)
  · refine V_iload_n X dX9_acknowledge_7 rfl ?_
    refine V_i2l X dX9_acknowledge_8 ?_
    refine V_lconst (v := 0) X dX9_acknowledge_9 (by decide) ?_
    refine V_aload_n X dX9_acknowledge_10 rfl rfl ?_
    refine M_geti X dX9_acknowledge_11 fk_X9_224 (by decide) rfl ?_
    refine V_iconst (v := 1) X dX9_acknowledge_14 (by decide) ?_
    refine V_isub X dX9_acknowledge_15 ?_
    refine V_i2l X dX9_acknowledge_16 ?_
    refine V_callS3 X dX9_acknowledge_17 mk_X9_171 st_X9_in (c_inX l (N := N) (by omega) e15) (Nat.le_of_ble_eq_true rfl) ⟨Nat.le_of_ble_eq_true rfl, Nat.le_of_ble_eq_true rfl⟩ ?_ ?_
    · exact ⟨by dsimp only [rmm]; omega, by dsimp only [rmm]; omega⟩
    rintro r I1 ⟨rfl, rfl⟩
    refine V_if_eq X dX9_acknowledge_20 42 (by decide) (fun c_20 => ?_) (fun c_20 => ?_)
    · have h_20 := bz_f c_20
      have hz : ¬ okB S s b := fun q => h_20 q.1.1
      refine V_bipush (v := (-5)) X dX9_acknowledge_42 (by decide) ?_
      refine V_iret X dX9_acknowledge_44 ?_ ?_ ?_ ?_
      · exact rfl
      · dsimp only [rmm]; omega
      · dsimp only [rmm]; omega
      refine ⟨?_, ?_⟩ <;> rw [ackS, if_neg c_2, if_neg hz]
    have h_20 := bz_t c_20
    refine V_aload_n X dX9_acknowledge_23 rfl rfl ?_
    refine M_geta X dX9_acknowledge_24 fk_X9_44 (by decide) rfl ?_
    refine V_iload_n X dX9_acknowledge_27 rfl ?_
    refine M_zald X dX9_acknowledge_28 (by decide) rfl (sub_in hI.1.2.1 h_20) ?_
    refine V_if_eq X dX9_acknowledge_29 42 (by decide) (fun c_29 => ?_) (fun c_29 => ?_)
    · have hz : ¬ okB S s b := fun q => q.1.2 c_29
      refine V_bipush (v := (-5)) X dX9_acknowledge_42 (by decide) ?_
      refine V_iret X dX9_acknowledge_44 ?_ ?_ ?_ ?_
      · exact rfl
      · dsimp only [rmm]; omega
      · dsimp only [rmm]; omega
      refine ⟨?_, ?_⟩ <;> rw [ackS, if_neg c_2, if_neg hz]
    refine V_aload_n X dX9_acknowledge_32 rfl rfl ?_
    refine M_geta X dX9_acknowledge_33 fk_X9_48 (by decide) rfl ?_
    refine V_iload_n X dX9_acknowledge_36 rfl ?_
    refine M_iald X dX9_acknowledge_37 (by decide) rfl (sub_in hI.1.2.1 h_20) ?_
    refine V_iload_n X dX9_acknowledge_38 rfl ?_
    refine V_icmp_eq X dX9_acknowledge_39 45 (by decide) (fun c_39 => ?_) (fun c_39 => ?_)
    · have hz : okB S s b := ⟨⟨h_20, c_29⟩, c_39⟩
      refine V_aload_n X dX9_acknowledge_45 rfl rfl ?_
      refine V_iload_n X dX9_acknowledge_46 rfl ?_
      refine V_iload_n X dX9_acknowledge_47 rfl ?_
      apply V_callV2 X dX9_acknowledge_48 mk_X9_292 iv_X9_findKept (c_findKept l (ct_up hI.1.2.2.2 (by decide)))
      · first | assumption | exact hu_s | exact (hu_n (by first | exact kd_nk (by decide) | exact kd_ni (by omega) | exact kd_ng (by omega) | assumption | exact Ne.symm (by assumption))).trans (by first | assumption | exact hu_s | exact (hu_n (by first | exact kd_nk (by decide) | exact kd_ni (by omega) | exact kd_ng (by omega) | assumption | exact Ne.symm (by assumption))).trans (by first | assumption | exact hu_s | exact (hu_n (by first | exact kd_nk (by decide) | exact kd_ni (by omega) | exact kd_ng (by omega) | assumption | exact Ne.symm (by assumption))).trans (by first | assumption | exact hu_s)))
      · exact rfl
      · exact Nat.le_of_ble_eq_true rfl
      · exact ⟨Nat.le_of_ble_eq_true rfl, Nat.le_of_ble_eq_true rfl⟩
      · exact ⟨by dsimp only [rmm]; omega, by dsimp only [rmm]; omega⟩
      rintro r I1 ⟨rfl, rfl⟩
      refine V_istore X dX9_acknowledge_51 (by decide) rfl ?_
      refine V_iload X dX9_acknowledge_53 rfl ?_
      refine V_if_ge X dX9_acknowledge_55 61 (by decide) (fun c_55 => ?_) (fun c_55 => ?_)
      · obtain ⟨k, hk, hk9, ek, -⟩ := fkS_nat (ct_up hI.1.2.2.2 (by decide)) c_55
        refine V_aload_n X dX9_acknowledge_61 rfl rfl ?_
        refine M_geta X dX9_acknowledge_62 fk_X9_150 (by decide) rfl ?_
        refine V_iload X dX9_acknowledge_65 rfl ?_
        refine V_iconst (v := 0) X dX9_acknowledge_67 (by decide) ?_
        refine M_zast X dX9_acknowledge_68 (by decide) rfl (by rw [ek]; exact vp_in_nI2 hk9 (by omega)) (rfl) ?_
        refine V_iconst (v := 1) X dX9_acknowledge_69 (by decide) ?_
        refine V_iret X dX9_acknowledge_70 ?_ ?_ ?_ ?_
        · exact rfl
        · dsimp only [rmm]; omega
        · dsimp only [rmm]; omega
        refine ⟨?_, ?_⟩ <;> rw [ackS, if_neg c_2, if_pos hz, if_pos c_55]
      refine V_bipush (v := (-9)) X dX9_acknowledge_58 (by decide) ?_
      refine V_iret X dX9_acknowledge_60 ?_ ?_ ?_ ?_
      · exact rfl
      · dsimp only [rmm]; omega
      · dsimp only [rmm]; omega
      refine ⟨?_, ?_⟩ <;> rw [ackS, if_neg c_2, if_pos hz, if_neg c_55]
    have hz : ¬ okB S s b := fun q => c_39 q.2
    refine V_bipush (v := (-5)) X dX9_acknowledge_42 (by decide) ?_
    refine V_iret X dX9_acknowledge_44 ?_ ?_ ?_ ?_
    · exact rfl
    · dsimp only [rmm]; omega
    · dsimp only [rmm]; omega
    refine ⟨?_, ?_⟩ <;> rw [ackS, if_neg c_2, if_neg hz]
  refine V_iconst (v := 0) X dX9_acknowledge_5 (by decide) ?_
  refine V_iret X dX9_acknowledge_6 ?_ ?_ ?_ ?_
  · exact rfl
  · dsimp only [rmm]; omega
  · dsimp only [rmm]; omega
  refine ⟨?_, ?_⟩ <;> rw [ackS, if_pos c_2]
def op_again (S : St) (s b n : Int32) : St × Int32 := let S1 := entS S s; if 0 ≤ lkB S s b then (if 0 ≤ fkS S1 b n then (if S1.1 13 (nn s) < 200 then (let A := mailS S1 s (fkS S1 b n); (pa A 26 (nn b) (A.1 21 (nn b)), fkS S1 b n)) else rr S1 (-8)) else rr S1 (-9)) else rr S1 (lkB S s b)
set_option maxRecDepth 100000 in
set_option maxHeartbeats 4000000 in
theorem m_again (l : Launch) {S : St} {J : aH} {s b n : Int32} {c : Nat} (hI : Iv c S) : AM l yX9_again cX9_again 6 (some .int) (rmm 3 0 0 70) [.ref mO, .int s, .int b, .int n] (ovl S J) (fun r I' => r = some (.int (op_again S s b n).2) ∧ I' = ovl (op_again S s b n).1 J) := by
  have hE := hI.ent (s := s)
  refine AM_of RX9 (by decide) rfl [some (.ref mO), some (.int s), some (.int b), some (.int n), none, none] rfl (Nat.le_of_ble_eq_true rfl) (fun Z X hNm => ?_)
  refine V_aload_n X dX9_again_0 rfl rfl ?_
  refine V_iload_n X dX9_again_1 rfl ?_
  refine V_iload_n X dX9_again_2 rfl ?_
  apply V_callV2 X dX9_again_3 mk_X9_283 iv_X9_lacksSub (c_lacksSub l hI.1.1 hI.1.2.1)
  · first | assumption | exact hu_s | exact (hu_n (by first | exact kd_nk (by decide) | exact kd_ni (by omega) | exact kd_ng (by omega) | assumption | exact Ne.symm (by assumption))).trans (by first | assumption | exact hu_s | exact (hu_n (by first | exact kd_nk (by decide) | exact kd_ni (by omega) | exact kd_ng (by omega) | assumption | exact Ne.symm (by assumption))).trans (by first | assumption | exact hu_s | exact (hu_n (by first | exact kd_nk (by decide) | exact kd_ni (by omega) | exact kd_ng (by omega) | assumption | exact Ne.symm (by assumption))).trans (by first | assumption | exact hu_s)))
  · exact rfl
  · exact Nat.le_of_ble_eq_true rfl
  · exact ⟨Nat.le_of_ble_eq_true rfl, Nat.le_of_ble_eq_true rfl⟩
  · exact ⟨by dsimp only [rmm]; omega, by dsimp only [rmm]; omega⟩
  rintro r I1 ⟨rfl, rfl⟩
  refine V_istore X dX9_again_6 (by decide) rfl ?_
  refine V_iload X dX9_again_8 rfl ?_
  refine V_if_ge X dX9_again_10 17 (by decide) (fun c_10 => ?_) (fun c_10 => ?_)
  · refine V_aload_n X dX9_again_17 rfl rfl ?_
    refine V_iload_n X dX9_again_18 rfl ?_
    refine V_iload_n X dX9_again_19 rfl ?_
    apply V_callV2 X dX9_again_20 mk_X9_292 iv_X9_findKept (c_findKept l (ct_up hE.1.2.2.2 (by decide)))
    · first | assumption | exact hu_s | exact (hu_n (by first | exact kd_nk (by decide) | exact kd_ni (by omega) | exact kd_ng (by omega) | assumption | exact Ne.symm (by assumption))).trans (by first | assumption | exact hu_s | exact (hu_n (by first | exact kd_nk (by decide) | exact kd_ni (by omega) | exact kd_ng (by omega) | assumption | exact Ne.symm (by assumption))).trans (by first | assumption | exact hu_s | exact (hu_n (by first | exact kd_nk (by decide) | exact kd_ni (by omega) | exact kd_ng (by omega) | assumption | exact Ne.symm (by assumption))).trans (by first | assumption | exact hu_s)))
    · exact rfl
    · exact Nat.le_of_ble_eq_true rfl
    · exact ⟨Nat.le_of_ble_eq_true rfl, Nat.le_of_ble_eq_true rfl⟩
    · exact ⟨by dsimp only [rmm]; omega, by dsimp only [rmm]; omega⟩
    rintro r I1 ⟨rfl, rfl⟩
    refine V_istore X dX9_again_23 (by decide) rfl ?_
    refine V_iload X dX9_again_25 rfl ?_
    refine V_if_ge X dX9_again_27 35 (by decide) (fun c_27 => ?_) (fun c_27 => ?_)
    · refine V_iload X dX9_again_35 rfl ?_
      refine V_if_ge X dX9_again_37 45 (by decide) (fun c_37 => ?_) (fun c_37 => ?_)
      · refine V_aload_n X dX9_again_45 rfl rfl ?_
        refine M_geta X dX9_again_46 fk_X9_38 (by decide) rfl ?_
        refine V_iload_n X dX9_again_49 rfl ?_
        refine M_iald X dX9_again_50 (by decide) rfl (ses_in hI.1.1 (lack_ses (lkB_ok c_10).1)) ?_
        refine V_sipush (v := 200) X dX9_again_51 (by decide) ?_
        refine V_icmp_lt X dX9_again_54 62 (by decide) (fun c_54 => ?_) (fun c_54 => ?_)
        · refine V_iconst (v := 0) X dX9_again_62 (by decide) ?_
          refine V_istore X dX9_again_63 (by decide) rfl ?_
          refine V_iload X dX9_again_65 rfl ?_
          refine V_if_ge X dX9_again_67 77 (by decide) (fun c_67 => ?_) (fun c_67 => ?_)
          · refine V_aload_n X dX9_again_77 rfl rfl ?_
            refine V_iload_n X dX9_again_78 rfl ?_
            refine V_iload X dX9_again_79 rfl ?_
            obtain ⟨a, ha, ea⟩ := lt_of_in (ses_in hI.1.1 (lack_ses (lkB_ok c_10).1)) (by decide)
            have hv := (mail_eq (S := entS S s) (M := 0) ha ⟨(hE.2.2.2.1 a ha).2.1, by have := (hE.2.2.2.1 a ha).2.2; omega⟩).2
            rw [← ea] at hv
            apply V_callV2 X dX9_again_81 mk_X9_217 iv_X9_toMail (c_toMail l (ses_in hI.1.1 (lack_ses (lkB_ok c_10).1)) hv)
            · first | assumption | exact hu_s | exact (hu_n (by first | exact kd_nk (by decide) | exact kd_ni (by omega) | exact kd_ng (by omega) | assumption | exact Ne.symm (by assumption))).trans (by first | assumption | exact hu_s | exact (hu_n (by first | exact kd_nk (by decide) | exact kd_ni (by omega) | exact kd_ng (by omega) | assumption | exact Ne.symm (by assumption))).trans (by first | assumption | exact hu_s | exact (hu_n (by first | exact kd_nk (by decide) | exact kd_ni (by omega) | exact kd_ng (by omega) | assumption | exact Ne.symm (by assumption))).trans (by first | assumption | exact hu_s)))
            · exact rfl
            · exact Nat.le_of_ble_eq_true rfl
            · exact ⟨Nat.le_of_ble_eq_true rfl, Nat.le_of_ble_eq_true rfl⟩
            · exact ⟨by dsimp only [rmm]; omega, by dsimp only [rmm]; omega⟩
            rintro r I1 ⟨rfl, rfl⟩
            refine V_aload_n X dX9_again_84 rfl rfl ?_
            refine M_geta X dX9_again_85 fk_X9_75 (by decide) rfl ?_
            refine V_iload_n X dX9_again_88 rfl ?_
            refine V_aload_n X dX9_again_89 rfl rfl ?_
            refine M_geta X dX9_again_90 fk_X9_60 (by decide) rfl ?_
            refine V_iload_n X dX9_again_93 rfl ?_
            refine M_iald X dX9_again_94 (by decide) rfl (sub_in hE.1.2.1 (lkB_ok c_10).2.1.1) ?_
            refine M_iast X dX9_again_95 (by decide) rfl (sub_in hE.1.2.1 (lkB_ok c_10).2.1.1) ?_
            refine V_iload X dX9_again_96 rfl ?_
            refine V_iret X dX9_again_98 ?_ ?_ ?_ ?_
            · exact rfl
            · dsimp only [rmm]; omega
            · dsimp only [rmm]; omega
            refine ⟨?_, ?_⟩ <;> rw [op_again, if_pos c_10, if_pos c_37, if_pos c_54]
          · exact absurd c_67 (by decide)
        refine V_bipush (v := (-8)) X dX9_again_57 (by decide) ?_
        refine V_goto X dX9_again_59 63 (by decide) ?_
        refine V_istore X dX9_again_63 (by decide) rfl ?_
        refine V_iload X dX9_again_65 rfl ?_
        refine V_if_ge X dX9_again_67 77 (by decide) (fun c_67 => ?_) (fun c_67 => ?_)
        · exact absurd c_67 (by decide)
        refine V_aload_n X dX9_again_70 rfl rfl ?_
        refine V_iload X dX9_again_71 rfl ?_
        apply V_callV1 X dX9_again_73 mk_X9_175 iv_X9_refuse (c_refuse9 l (x := -8) (by unfold vp_in; decide))
        · first | assumption | exact hu_s | exact (hu_n (by first | exact kd_nk (by decide) | exact kd_ni (by omega) | exact kd_ng (by omega) | assumption | exact Ne.symm (by assumption))).trans (by first | assumption | exact hu_s | exact (hu_n (by first | exact kd_nk (by decide) | exact kd_ni (by omega) | exact kd_ng (by omega) | assumption | exact Ne.symm (by assumption))).trans (by first | assumption | exact hu_s | exact (hu_n (by first | exact kd_nk (by decide) | exact kd_ni (by omega) | exact kd_ng (by omega) | assumption | exact Ne.symm (by assumption))).trans (by first | assumption | exact hu_s)))
        · exact rfl
        · exact Nat.le_of_ble_eq_true rfl
        · exact ⟨Nat.le_of_ble_eq_true rfl, Nat.le_of_ble_eq_true rfl⟩
        · exact ⟨by dsimp only [rmm]; omega, by dsimp only [rmm]; omega⟩
        rintro r I1 ⟨rfl, rfl⟩
        refine V_iret X dX9_again_76 ?_ ?_ ?_ ?_
        · exact rfl
        · dsimp only [rmm]; omega
        · dsimp only [rmm]; omega
        refine ⟨?_, ?_⟩ <;> rw [op_again, if_pos c_10, if_pos c_37, if_neg c_54]
      refine V_bipush (v := (-9)) X dX9_again_40 (by decide) ?_
      refine V_goto X dX9_again_42 63 (by decide) ?_
      refine V_istore X dX9_again_63 (by decide) rfl ?_
      refine V_iload X dX9_again_65 rfl ?_
      refine V_if_ge X dX9_again_67 77 (by decide) (fun c_67 => ?_) (fun c_67 => ?_)
      · exact absurd c_67 (by decide)
      refine V_aload_n X dX9_again_70 rfl rfl ?_
      refine V_iload X dX9_again_71 rfl ?_
      apply V_callV1 X dX9_again_73 mk_X9_175 iv_X9_refuse (c_refuse9 l (x := -9) (by unfold vp_in; decide))
      · first | assumption | exact hu_s | exact (hu_n (by first | exact kd_nk (by decide) | exact kd_ni (by omega) | exact kd_ng (by omega) | assumption | exact Ne.symm (by assumption))).trans (by first | assumption | exact hu_s | exact (hu_n (by first | exact kd_nk (by decide) | exact kd_ni (by omega) | exact kd_ng (by omega) | assumption | exact Ne.symm (by assumption))).trans (by first | assumption | exact hu_s | exact (hu_n (by first | exact kd_nk (by decide) | exact kd_ni (by omega) | exact kd_ng (by omega) | assumption | exact Ne.symm (by assumption))).trans (by first | assumption | exact hu_s)))
      · exact rfl
      · exact Nat.le_of_ble_eq_true rfl
      · exact ⟨Nat.le_of_ble_eq_true rfl, Nat.le_of_ble_eq_true rfl⟩
      · exact ⟨by dsimp only [rmm]; omega, by dsimp only [rmm]; omega⟩
      rintro r I1 ⟨rfl, rfl⟩
      refine V_iret X dX9_again_76 ?_ ?_ ?_ ?_
      · exact rfl
      · dsimp only [rmm]; omega
      · dsimp only [rmm]; omega
      refine ⟨?_, ?_⟩ <;> rw [op_again, if_pos c_10, if_neg c_37]
    · exact absurd c_10 c_27
  refine V_iconst (v := (-1)) X dX9_again_13 (by decide) ?_
  refine V_goto X dX9_again_14 23 (by decide) ?_
  refine V_istore X dX9_again_23 (by decide) rfl ?_
  refine V_iload X dX9_again_25 rfl ?_
  refine V_if_ge X dX9_again_27 35 (by decide) (fun c_27 => ?_) (fun c_27 => ?_)
  · exact absurd c_27 c_10
  refine V_iload X dX9_again_30 rfl ?_
  refine V_goto X dX9_again_32 63 (by decide) ?_
  refine V_istore X dX9_again_63 (by decide) rfl ?_
  refine V_iload X dX9_again_65 rfl ?_
  refine V_if_ge X dX9_again_67 77 (by decide) (fun c_67 => ?_) (fun c_67 => ?_)
  · exact absurd c_67 c_10
  refine V_aload_n X dX9_again_70 rfl rfl ?_
  refine V_iload X dX9_again_71 rfl ?_
  apply V_callV1 X dX9_again_73 mk_X9_175 iv_X9_refuse (c_refuse9 l (x := lkB S s b) (lkB_in c_10))
  · first | assumption | exact hu_s | exact (hu_n (by first | exact kd_nk (by decide) | exact kd_ni (by omega) | exact kd_ng (by omega) | assumption | exact Ne.symm (by assumption))).trans (by first | assumption | exact hu_s | exact (hu_n (by first | exact kd_nk (by decide) | exact kd_ni (by omega) | exact kd_ng (by omega) | assumption | exact Ne.symm (by assumption))).trans (by first | assumption | exact hu_s | exact (hu_n (by first | exact kd_nk (by decide) | exact kd_ni (by omega) | exact kd_ng (by omega) | assumption | exact Ne.symm (by assumption))).trans (by first | assumption | exact hu_s)))
  · exact rfl
  · exact Nat.le_of_ble_eq_true rfl
  · exact ⟨Nat.le_of_ble_eq_true rfl, Nat.le_of_ble_eq_true rfl⟩
  · exact ⟨by dsimp only [rmm]; omega, by dsimp only [rmm]; omega⟩
  rintro r I1 ⟨rfl, rfl⟩
  refine V_iret X dX9_again_76 ?_ ?_ ?_ ?_
  · exact rfl
  · dsimp only [rmm]; omega
  · dsimp only [rmm]; omega
  refine ⟨?_, ?_⟩ <;> rw [op_again, if_neg c_10]
abbrev sbP (S : St) (s : Int32) (k : Nat) : Prop := ¬ S.1 16 k = 0 ∧ S.1 17 k = s
def sbB (S : St) (s : Int32) (k : Nat) : Bool := decide (sbP S s k)
theorem sbB_iff {S : St} {s : Int32} {k : Nat} : sbB S s k = true ↔ sbP S s k := decide_eq_true_iff
abbrev hasB (S : St) (s : Int32) : Prop := frs (sbB S s) (nn (S.1 15 0)) < nn (S.1 15 0)
def lpa (f : Nat → Int32 → Int32) : Nat → Int32 → Int32
  | 0, a => a
  | n + 1, a => f n (lpa f n a)
def lt1 (S : St) (s : Int32) (k : Nat) (a : Int32) : Int32 := if S.1 16 k = 0 then a else if S.1 17 k = s then (if S.1 28 k = 0 then a else if a < 0 then nI k else if S.1 29 (nn a) ≤ S.1 29 k then a else nI k) else a
def mr1 (S : St) (s : Int32) (k : Nat) (a : Int32) : Int32 := if 0 ≤ a then a else if S.1 16 k = 0 then a else if S.1 17 k = s then (if S.1 31 k = 0 then a else if rdy S (nI k) then nI k else a) else a
def bestS (S : St) (s : Int32) : Int32 := lpa (mr1 S s) (nn (S.1 15 0)) (lpa (lt1 S s) (nn (S.1 15 0)) (-1))
def pubA (S : St) (s b n : Int32) : St := let q := ackS S s b n; let S2 := pa q.1 60 0 q.2; pa S2 12 (nn s) (S2.1 12 (nn s) + 1)
def op_publish (S : St) (s b n : Int32) : St × Int32 := let S1 := entS S s; if 0 ≤ lackS S s then (if hasB S1 s then (if S1.1 12 (nn s) = 4 then rr S1 (-8) else if S1.1 48 0 = 900 then rr S1 (-8) else (let S3 := pubA S1 s b n; if 0 ≤ bestS S3 s then (makeS S3 (nn (bestS S3 s)), 1) else (S3, 0))) else rr S1 (-9)) else rr S1 (lackS S s)
/-- an answer of a search among N: -1, or a place -/
def ao (a : Int32) (x : Nat) : Prop := a = -1 ∨ ∃ k, k < x ∧ a = nI k
theorem ao_up {a : Int32} {x : Nat} (h : ao a x) : ao a (x + 1) := h.elim Or.inl fun ⟨k, hk, e⟩ => Or.inr ⟨k, by omega, e⟩
theorem ao_0 {a : Int32} {x : Nat} (h : ao a x) (hx : x < 2 ^ 31) (h0 : 0 ≤ a) : ∃ k, k < x ∧ a = nI k := h.elim (fun e => by rw [e] at h0; exact absurd h0 (by decide)) id
theorem ao_lt {a : Int32} {x : Nat} (h : ao a x) (hx : x < 2 ^ 31) (h0 : ¬ a < 0) : ∃ k, k < x ∧ a = nI k := h.elim (fun e => by rw [e] at h0; exact absurd (by decide) h0) id
theorem lt1_ao {S : St} {s : Int32} : ∀ x, ao (lpa (lt1 S s) x (-1)) x
  | 0 => Or.inl rfl
  | x + 1 => by
    have ih := ao_up (lt1_ao (S := S) (s := s) x)
    rw [lpa, lt1]
    split
    · exact ih
    · split
      · split
        · exact ih
        · split
          · exact Or.inr ⟨x, by omega, rfl⟩
          · split
            · exact ih
            · exact Or.inr ⟨x, by omega, rfl⟩
      · exact ih
theorem mr1_ao {S : St} {s : Int32} {a : Int32} {N : Nat} (ha : ao a N) : ∀ x, x ≤ N → ao (lpa (mr1 S s) x a) N
  | 0, _ => ha
  | x + 1, hx => by
    have ih := mr1_ao (S := S) (s := s) ha x (by omega)
    rw [lpa, mr1]
    split
    · exact ih
    · split
      · exact ih
      · split
        · split
          · exact ih
          · split
            · exact Or.inr ⟨x, by omega, rfl⟩
            · exact ih
        · exact ih
theorem best_ao {S : St} {s : Int32} : ao (bestS S s) (nn (S.1 15 0)) := mr1_ao (lt1_ao _) _ (Nat.le_refl _)
