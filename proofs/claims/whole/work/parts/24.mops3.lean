/-! the reference's inner loops -/
abbrev sm (x : Int32) (b : Nat) : Prop := x = nI (nn x) ∧ nn x ≤ b
theorem sm_of {x : Int32} {j b : Nat} (h : x = nI j) (hj : j ≤ b) (hb : b < 2 ^ 31) : sm x b := by
  subst h
  have e : nn (nI j) = j := nI_clamp (by omega)
  exact ⟨by rw [e], by rw [e]; exact hj⟩
theorem add_nn {a : Nat} {x : Int32} (h : x = nI (nn x)) : nI a + x = nI (a + nn x) := by
  rw [← nI_add, ← h]
abbrev itP (S : St) (s : Int32) (i : Nat) : Prop := ¬ S.1 33 i = 0 ∧ S.1 34 i = s ∧ S.1 40 i = 2 ∧ ¬ S.1 44 i ≤ 0
def anyI (S : St) (s : Int32) : Nat → Bool
  | 0 => false
  | n + 1 => anyI S s n || decide (itP S s n)
theorem anyI_t {S : St} {s : Int32} {n : Nat} (h : anyI S s n = true ∨ itP S s n) : anyI S s (n + 1) = true := by
  unfold anyI
  rcases h with h | h
  · rw [h]; rfl
  · rw [decide_eq_true h, Bool.or_true]
theorem anyI_f {S : St} {s : Int32} {n : Nat} (h : ¬ anyI S s n = true) (h2 : ¬ itP S s n) : ¬ anyI S s (n + 1) = true := by
  unfold anyI
  rw [decide_eq_false h2, Bool.or_false]
  exact h
/-- the items that the state counts -/
abbrev lft (S : St) (s : Int32) : Prop := anyI S s (nn (S.1 32 0)) = true
abbrev rdy (S : St) (s : Int32) : Prop := lft S s ∧ ¬ S.1 23 (nn s) = 0
set_option maxRecDepth 100000 in
set_option maxHeartbeats 4000000 in
theorem ready_loop {l : Launch} {Z : Zt} {S : St} {J : aH} {s : Int32} {N : Nat} (hN : N ≤ 60) (e32 : S.1 32 0 = nI N) (hb : vp_in s 20) (X : Fx Z l (rmm 0 0 0 0) cX9_isReady 4 RX9 (some .boolean) (fun r I' => r = some (.int (if rdy S s then 1 else 0)) ∧ I' = ovl S J)) : ∀ (m x : Nat) (acc : Int32), N - x < m → x ≤ N → acc = (if anyI S s x = true then 1 else 0) → V Z 4 (ovl S J) [some (.ref mO), some (.int s), some (.int acc), some (.int (nI x))] [] 0 0 4
  | 0, _, _, _, _, _ => absurd (by assumption) (Nat.not_lt_zero _)
  | m + 1, x, acc, hm, hx, hacc => by
    refine V_iload_n X dX9_isReady_4 rfl ?_
    refine V_aload_n X dX9_isReady_5 rfl rfl ?_
    refine M_geti X dX9_isReady_6 fk_X9_202 (by decide) rfl ?_
    rw [e32]
    refine V_icmp_ge X dX9_isReady_9 66 (by decide) (fun c_9 => ?_) (fun c_9 => ?_)
    · have hx : x = N := by
        rcases Nat.lt_or_ge x N with q | q
        · exact absurd c_9 (nI_ge q (by omega))
        · omega
      subst hx
      refine V_iload_n X dX9_isReady_66 rfl ?_
      have hl : lft S s ↔ anyI S s x = true := by
        show anyI S s (nn (S.1 32 0)) = true ↔ _
        rw [e32, show nn (nI x) = x from nI_clamp (by omega)]
      refine V_if_eq X dX9_isReady_67 83 (by decide) (fun c_67 => ?_) (fun c_67 => ?_)
      · rw [hacc] at c_67
        have hz : ¬ rdy S s := fun q => bz_f c_67 (hl.mp q.1)
        refine V_iconst (v := 0) X dX9_isReady_83 (by decide) ?_
        refine V_iret X dX9_isReady_84 ?_ ?_ ?_ ?_
        · exact rfl
        · dsimp only [rmm]; omega
        · dsimp only [rmm]; omega
        first | exact ⟨by rw [if_neg hz], rfl⟩ | exact ⟨by rw [if_pos hz], rfl⟩
      rw [hacc] at c_67
      refine V_aload_n X dX9_isReady_70 rfl rfl ?_
      refine M_geta X dX9_isReady_71 fk_X9_66 (by decide) rfl ?_
      refine V_iload_n X dX9_isReady_74 rfl ?_
      refine M_zald X dX9_isReady_75 (by decide) rfl (hb) ?_
      refine V_if_eq X dX9_isReady_76 83 (by decide) (fun c_76 => ?_) (fun c_76 => ?_)
      · have hz : ¬ rdy S s := fun q => q.2 c_76
        refine V_iconst (v := 0) X dX9_isReady_83 (by decide) ?_
        refine V_iret X dX9_isReady_84 ?_ ?_ ?_ ?_
        · exact rfl
        · dsimp only [rmm]; omega
        · dsimp only [rmm]; omega
        first | exact ⟨by rw [if_neg hz], rfl⟩ | exact ⟨by rw [if_pos hz], rfl⟩
      have hz : rdy S s := ⟨hl.mpr (bz_t c_67), c_76⟩
      refine V_iconst (v := 1) X dX9_isReady_79 (by decide) ?_
      refine V_goto X dX9_isReady_80 84 (by decide) ?_
      refine V_iret X dX9_isReady_84 ?_ ?_ ?_ ?_
      · exact rfl
      · dsimp only [rmm]; omega
      · dsimp only [rmm]; omega
      first | exact ⟨by rw [if_neg hz], rfl⟩ | exact ⟨by rw [if_pos hz], rfl⟩
    have hlt : x < N := by
      rcases Nat.lt_or_ge x N with q | q
      · exact q
      · exact absurd (nI_le q (by omega)) c_9
    refine V_iload_n X dX9_isReady_12 rfl ?_
    refine V_if_ne X dX9_isReady_13 54 (by decide) (fun c_13 => ?_) (fun c_13 => ?_)
    · rw [hacc] at c_13
      have ha := anyI_t (n := x) (Or.inl (bz_t c_13))
      refine V_iconst (v := 1) X dX9_isReady_54 (by decide) ?_
      refine V_goto X dX9_isReady_55 59 (by decide) ?_
      refine V_istore_n X dX9_isReady_59 (by decide) rfl ?_
      refine V_iinc X dX9_isReady_60 rfl (by decide) rfl (nI (x + 1)) (nI_1 x) ?_
      refine V_goto X dX9_isReady_63 4 (by decide) ?_
      first | exact ready_loop hN e32 hb X m (x + 1) 1 (by omega) (by omega) (by rw [if_pos ha]) | exact ready_loop hN e32 hb X m (x + 1) 0 (by omega) (by omega) (by rw [if_neg hb2])
    rw [hacc] at c_13
    have ha := bz_f c_13
    refine V_aload_n X dX9_isReady_16 rfl rfl ?_
    refine M_geta X dX9_isReady_17 fk_X9_90 (by decide) rfl ?_
    refine V_iload_n X dX9_isReady_20 rfl ?_
    refine M_zaldN X dX9_isReady_21 (by decide) rfl (by omega) (by decide) ?_
    refine V_if_eq X dX9_isReady_22 58 (by decide) (fun c_22 => ?_) (fun c_22 => ?_)
    · have hb2 := anyI_f ha (fun q => q.1 c_22)
      refine V_iconst (v := 0) X dX9_isReady_58 (by decide) ?_
      refine V_istore_n X dX9_isReady_59 (by decide) rfl ?_
      refine V_iinc X dX9_isReady_60 rfl (by decide) rfl (nI (x + 1)) (nI_1 x) ?_
      refine V_goto X dX9_isReady_63 4 (by decide) ?_
      first | exact ready_loop hN e32 hb X m (x + 1) 1 (by omega) (by omega) (by rw [if_pos ha]) | exact ready_loop hN e32 hb X m (x + 1) 0 (by omega) (by omega) (by rw [if_neg hb2])
    refine V_aload_n X dX9_isReady_25 rfl rfl ?_
    refine M_geta X dX9_isReady_26 fk_X9_93 (by decide) rfl ?_
    refine V_iload_n X dX9_isReady_29 rfl ?_
    refine M_ialdN X dX9_isReady_30 (by decide) rfl (by omega) (by decide) ?_
    refine V_iload_n X dX9_isReady_31 rfl ?_
    refine V_icmp_ne X dX9_isReady_32 58 (by decide) (fun c_32 => ?_) (fun c_32 => ?_)
    · have hb2 := anyI_f ha (fun q => c_32 q.2.1)
      refine V_iconst (v := 0) X dX9_isReady_58 (by decide) ?_
      refine V_istore_n X dX9_isReady_59 (by decide) rfl ?_
      refine V_iinc X dX9_isReady_60 rfl (by decide) rfl (nI (x + 1)) (nI_1 x) ?_
      refine V_goto X dX9_isReady_63 4 (by decide) ?_
      first | exact ready_loop hN e32 hb X m (x + 1) 1 (by omega) (by omega) (by rw [if_pos ha]) | exact ready_loop hN e32 hb X m (x + 1) 0 (by omega) (by omega) (by rw [if_neg hb2])
    refine V_aload_n X dX9_isReady_35 rfl rfl ?_
    refine M_geta X dX9_isReady_36 fk_X9_111 (by decide) rfl ?_
    refine V_iload_n X dX9_isReady_39 rfl ?_
    refine M_ialdN X dX9_isReady_40 (by decide) rfl (by omega) (by decide) ?_
    refine V_iconst (v := 2) X dX9_isReady_41 (by decide) ?_
    refine V_icmp_ne X dX9_isReady_42 58 (by decide) (fun c_42 => ?_) (fun c_42 => ?_)
    · have hb2 := anyI_f ha (fun q => c_42 q.2.2.1)
      refine V_iconst (v := 0) X dX9_isReady_58 (by decide) ?_
      refine V_istore_n X dX9_isReady_59 (by decide) rfl ?_
      refine V_iinc X dX9_isReady_60 rfl (by decide) rfl (nI (x + 1)) (nI_1 x) ?_
      refine V_goto X dX9_isReady_63 4 (by decide) ?_
      first | exact ready_loop hN e32 hb X m (x + 1) 1 (by omega) (by omega) (by rw [if_pos ha]) | exact ready_loop hN e32 hb X m (x + 1) 0 (by omega) (by omega) (by rw [if_neg hb2])
    refine V_aload_n X dX9_isReady_45 rfl rfl ?_
    refine M_geta X dX9_isReady_46 fk_X9_123 (by decide) rfl ?_
    refine V_iload_n X dX9_isReady_49 rfl ?_
    refine M_ialdN X dX9_isReady_50 (by decide) rfl (by omega) (by decide) ?_
    refine V_if_le X dX9_isReady_51 58 (by decide) (fun c_51 => ?_) (fun c_51 => ?_)
    · have hb2 := anyI_f ha (fun q => q.2.2.2 c_51)
      refine V_iconst (v := 0) X dX9_isReady_58 (by decide) ?_
      refine V_istore_n X dX9_isReady_59 (by decide) rfl ?_
      refine V_iinc X dX9_isReady_60 rfl (by decide) rfl (nI (x + 1)) (nI_1 x) ?_
      refine V_goto X dX9_isReady_63 4 (by decide) ?_
      first | exact ready_loop hN e32 hb X m (x + 1) 1 (by omega) (by omega) (by rw [if_pos ha]) | exact ready_loop hN e32 hb X m (x + 1) 0 (by omega) (by omega) (by rw [if_neg hb2])
    have ha := anyI_t (Or.inr ⟨c_22, c_32, c_42, c_51⟩)
    refine V_iconst (v := 1) X dX9_isReady_54 (by decide) ?_
    refine V_goto X dX9_isReady_55 59 (by decide) ?_
    refine V_istore_n X dX9_isReady_59 (by decide) rfl ?_
    refine V_iinc X dX9_isReady_60 rfl (by decide) rfl (nI (x + 1)) (nI_1 x) ?_
    refine V_goto X dX9_isReady_63 4 (by decide) ?_
    first | exact ready_loop hN e32 hb X m (x + 1) 1 (by omega) (by omega) (by rw [if_pos ha]) | exact ready_loop hN e32 hb X m (x + 1) 0 (by omega) (by omega) (by rw [if_neg hb2])
set_option maxRecDepth 100000 in
set_option maxHeartbeats 4000000 in
theorem c_ready (l : Launch) {S : St} {J : aH} {s : Int32} (h32 : ct S 32 60) (hb : vp_in s 20) : AM l yX9_isReady cX9_isReady 4 (some .boolean) (rmm 0 0 0 0) [.ref mO, .int s] (ovl S J) (fun r I' => r = some (.int (if rdy S s then 1 else 0)) ∧ I' = ovl S J) := by
  obtain ⟨N, hN, e32⟩ := h32
  refine AM_of RX9 (by decide) rfl [some (.ref mO), some (.int s), none, none] rfl (Nat.le_of_ble_eq_true rfl) (fun Z X hNm => ?_)
  refine V_iconst (v := 0) X dX9_isReady_0 (by decide) ?_
  refine V_istore_n X dX9_isReady_1 (by decide) rfl ?_
  refine V_iconst (v := 0) X dX9_isReady_2 (by decide) ?_
  refine V_istore_n X dX9_isReady_3 (by decide) rfl ?_
  exact ready_loop hN e32 hb X (N + 1) 0 0 (by omega) (Nat.zero_le _) rfl
set_option maxRecDepth 100000 in
set_option maxHeartbeats 4000000 in
theorem left_loop {l : Launch} {Z : Zt} {S : St} {J : aH} {s : Int32} {N : Nat} (hN : N ≤ 60) (e32 : S.1 32 0 = nI N) (X : Fx Z l (rmm 0 0 0 0) cX9_leftOf 4 RX9 (some .boolean) (fun r I' => r = some (.int (if lft S s then 1 else 0)) ∧ I' = ovl S J)) : ∀ (m x : Nat) (acc : Int32), N - x < m → x ≤ N → acc = (if anyI S s x = true then 1 else 0) → V Z 4 (ovl S J) [some (.ref mO), some (.int s), some (.int acc), some (.int (nI x))] [] 0 0 4
  | 0, _, _, _, _, _ => absurd (by assumption) (Nat.not_lt_zero _)
  | m + 1, x, acc, hm, hx, hacc => by
    refine V_iload_n X dX9_leftOf_4 rfl ?_
    refine V_aload_n X dX9_leftOf_5 rfl rfl ?_
    refine M_geti X dX9_leftOf_6 fk_X9_202 (by decide) rfl ?_
    rw [e32]
    refine V_icmp_ge X dX9_leftOf_9 66 (by decide) (fun c_9 => ?_) (fun c_9 => ?_)
    · have hx : x = N := by
        rcases Nat.lt_or_ge x N with q | q
        · exact absurd c_9 (nI_ge q (by omega))
        · omega
      subst hx
      refine V_iload_n X dX9_leftOf_66 rfl ?_
      refine V_iret X dX9_leftOf_67 ?_ ?_ ?_ ?_
      · rw [hacc]; split <;> rfl
      · dsimp only [rmm]; omega
      · dsimp only [rmm]; omega
      refine ⟨?_, rfl⟩
      rw [hacc]
      show _ = some (Value.int (if anyI S s (nn (S.1 32 0)) = true then 1 else 0))
      rw [e32, show nn (nI x) = x from nI_clamp (by omega)]
    have hlt : x < N := by
      rcases Nat.lt_or_ge x N with q | q
      · exact q
      · exact absurd (nI_le q (by omega)) c_9
    refine V_iload_n X dX9_leftOf_12 rfl ?_
    refine V_if_ne X dX9_leftOf_13 54 (by decide) (fun c_13 => ?_) (fun c_13 => ?_)
    · rw [hacc] at c_13
      have ha := anyI_t (n := x) (Or.inl (bz_t c_13))
      refine V_iconst (v := 1) X dX9_leftOf_54 (by decide) ?_
      refine V_goto X dX9_leftOf_55 59 (by decide) ?_
      refine V_istore_n X dX9_leftOf_59 (by decide) rfl ?_
      refine V_iinc X dX9_leftOf_60 rfl (by decide) rfl (nI (x + 1)) (nI_1 x) ?_
      refine V_goto X dX9_leftOf_63 4 (by decide) ?_
      first | exact left_loop hN e32 X m (x + 1) 1 (by omega) (by omega) (by rw [if_pos ha]) | exact left_loop hN e32 X m (x + 1) 0 (by omega) (by omega) (by rw [if_neg hb])
    rw [hacc] at c_13
    have ha := bz_f c_13
    refine V_aload_n X dX9_leftOf_16 rfl rfl ?_
    refine M_geta X dX9_leftOf_17 fk_X9_90 (by decide) rfl ?_
    refine V_iload_n X dX9_leftOf_20 rfl ?_
    refine M_zaldN X dX9_leftOf_21 (by decide) rfl (by omega) (by decide) ?_
    refine V_if_eq X dX9_leftOf_22 58 (by decide) (fun c_22 => ?_) (fun c_22 => ?_)
    · have hb := anyI_f ha (fun q => q.1 c_22)
      refine V_iconst (v := 0) X dX9_leftOf_58 (by decide) ?_
      refine V_istore_n X dX9_leftOf_59 (by decide) rfl ?_
      refine V_iinc X dX9_leftOf_60 rfl (by decide) rfl (nI (x + 1)) (nI_1 x) ?_
      refine V_goto X dX9_leftOf_63 4 (by decide) ?_
      first | exact left_loop hN e32 X m (x + 1) 1 (by omega) (by omega) (by rw [if_pos ha]) | exact left_loop hN e32 X m (x + 1) 0 (by omega) (by omega) (by rw [if_neg hb])
    refine V_aload_n X dX9_leftOf_25 rfl rfl ?_
    refine M_geta X dX9_leftOf_26 fk_X9_93 (by decide) rfl ?_
    refine V_iload_n X dX9_leftOf_29 rfl ?_
    refine M_ialdN X dX9_leftOf_30 (by decide) rfl (by omega) (by decide) ?_
    refine V_iload_n X dX9_leftOf_31 rfl ?_
    refine V_icmp_ne X dX9_leftOf_32 58 (by decide) (fun c_32 => ?_) (fun c_32 => ?_)
    · have hb := anyI_f ha (fun q => c_32 q.2.1)
      refine V_iconst (v := 0) X dX9_leftOf_58 (by decide) ?_
      refine V_istore_n X dX9_leftOf_59 (by decide) rfl ?_
      refine V_iinc X dX9_leftOf_60 rfl (by decide) rfl (nI (x + 1)) (nI_1 x) ?_
      refine V_goto X dX9_leftOf_63 4 (by decide) ?_
      first | exact left_loop hN e32 X m (x + 1) 1 (by omega) (by omega) (by rw [if_pos ha]) | exact left_loop hN e32 X m (x + 1) 0 (by omega) (by omega) (by rw [if_neg hb])
    refine V_aload_n X dX9_leftOf_35 rfl rfl ?_
    refine M_geta X dX9_leftOf_36 fk_X9_111 (by decide) rfl ?_
    refine V_iload_n X dX9_leftOf_39 rfl ?_
    refine M_ialdN X dX9_leftOf_40 (by decide) rfl (by omega) (by decide) ?_
    refine V_iconst (v := 2) X dX9_leftOf_41 (by decide) ?_
    refine V_icmp_ne X dX9_leftOf_42 58 (by decide) (fun c_42 => ?_) (fun c_42 => ?_)
    · have hb := anyI_f ha (fun q => c_42 q.2.2.1)
      refine V_iconst (v := 0) X dX9_leftOf_58 (by decide) ?_
      refine V_istore_n X dX9_leftOf_59 (by decide) rfl ?_
      refine V_iinc X dX9_leftOf_60 rfl (by decide) rfl (nI (x + 1)) (nI_1 x) ?_
      refine V_goto X dX9_leftOf_63 4 (by decide) ?_
      first | exact left_loop hN e32 X m (x + 1) 1 (by omega) (by omega) (by rw [if_pos ha]) | exact left_loop hN e32 X m (x + 1) 0 (by omega) (by omega) (by rw [if_neg hb])
    refine V_aload_n X dX9_leftOf_45 rfl rfl ?_
    refine M_geta X dX9_leftOf_46 fk_X9_123 (by decide) rfl ?_
    refine V_iload_n X dX9_leftOf_49 rfl ?_
    refine M_ialdN X dX9_leftOf_50 (by decide) rfl (by omega) (by decide) ?_
    refine V_if_le X dX9_leftOf_51 58 (by decide) (fun c_51 => ?_) (fun c_51 => ?_)
    · have hb := anyI_f ha (fun q => q.2.2.2 c_51)
      refine V_iconst (v := 0) X dX9_leftOf_58 (by decide) ?_
      refine V_istore_n X dX9_leftOf_59 (by decide) rfl ?_
      refine V_iinc X dX9_leftOf_60 rfl (by decide) rfl (nI (x + 1)) (nI_1 x) ?_
      refine V_goto X dX9_leftOf_63 4 (by decide) ?_
      first | exact left_loop hN e32 X m (x + 1) 1 (by omega) (by omega) (by rw [if_pos ha]) | exact left_loop hN e32 X m (x + 1) 0 (by omega) (by omega) (by rw [if_neg hb])
    have ha := anyI_t (Or.inr ⟨c_22, c_32, c_42, c_51⟩)
    refine V_iconst (v := 1) X dX9_leftOf_54 (by decide) ?_
    refine V_goto X dX9_leftOf_55 59 (by decide) ?_
    refine V_istore_n X dX9_leftOf_59 (by decide) rfl ?_
    refine V_iinc X dX9_leftOf_60 rfl (by decide) rfl (nI (x + 1)) (nI_1 x) ?_
    refine V_goto X dX9_leftOf_63 4 (by decide) ?_
    first | exact left_loop hN e32 X m (x + 1) 1 (by omega) (by omega) (by rw [if_pos ha]) | exact left_loop hN e32 X m (x + 1) 0 (by omega) (by omega) (by rw [if_neg hb])
set_option maxRecDepth 100000 in
set_option maxHeartbeats 4000000 in
theorem c_left (l : Launch) {S : St} {J : aH} {s : Int32} (h32 : ct S 32 60) : AM l yX9_leftOf cX9_leftOf 4 (some .boolean) (rmm 0 0 0 0) [.ref mO, .int s] (ovl S J) (fun r I' => r = some (.int (if lft S s then 1 else 0)) ∧ I' = ovl S J) := by
  obtain ⟨N, hN, e32⟩ := h32
  refine AM_of RX9 (by decide) rfl [some (.ref mO), some (.int s), none, none] rfl (Nat.le_of_ble_eq_true rfl) (fun Z X hNm => ?_)
  refine V_iconst (v := 0) X dX9_leftOf_0 (by decide) ?_
  refine V_istore_n X dX9_leftOf_1 (by decide) rfl ?_
  refine V_iconst (v := 0) X dX9_leftOf_2 (by decide) ?_
  refine V_istore_n X dX9_leftOf_3 (by decide) rfl ?_
  exact left_loop hN e32 X (N + 1) 0 0 (by omega) (Nat.zero_le _) rfl
def mailS (S : St) (s m : Int32) : St := let S1 := pa S 14 (nn (1200 * s + S.1 13 (nn s))) m; pa S1 13 (nn s) (S1.1 13 (nn s) + 1)
set_option maxRecDepth 100000 in
set_option maxHeartbeats 4000000 in
theorem c_toMail (l : Launch) {S : St} {J : aH} {s m : Int32} (hs : vp_in s 12) (hm : vp_in (1200 * s + S.1 13 (nn s)) 14400) : AM l yX9_toMail cX9_toMail 3 none (rmm 0 0 0 0) [.ref mO, .int s, .int m] (ovl S J) (fun r I' => r = none ∧ I' = ovl (mailS S s m) J) := by
  refine AM_of RX9 (by decide) rfl [some (.ref mO), some (.int s), some (.int m)] rfl (Nat.le_of_ble_eq_true rfl) (fun Z X hNm => ?_)
  refine V_aload_n X dX9_toMail_0 rfl rfl ?_
  refine M_geta X dX9_toMail_1 fk_X9_41 (by decide) rfl ?_
  refine V_sipush (v := 1200) X dX9_toMail_4 (by decide) ?_
  refine V_iload_n X dX9_toMail_7 rfl ?_
  refine V_imul X dX9_toMail_8 ?_
  refine V_aload_n X dX9_toMail_9 rfl rfl ?_
  refine M_geta X dX9_toMail_10 fk_X9_38 (by decide) rfl ?_
  refine V_iload_n X dX9_toMail_13 rfl ?_
  refine M_iald X dX9_toMail_14 (by decide) rfl (hs) ?_
  refine V_iadd X dX9_toMail_15 ?_
  refine V_iload_n X dX9_toMail_16 rfl ?_
  refine M_iast X dX9_toMail_17 (by decide) rfl (hm) ?_
  refine V_aload_n X dX9_toMail_18 rfl rfl ?_
  refine M_geta X dX9_toMail_19 fk_X9_38 (by decide) rfl ?_
  refine V_iload_n X dX9_toMail_22 rfl ?_
  refine V_dup2 X dX9_toMail_23 rfl rfl ?_
  refine M_iald X dX9_toMail_24 (by decide) rfl (hs) ?_
  refine V_iconst (v := 1) X dX9_toMail_25 (by decide) ?_
  refine V_iadd X dX9_toMail_26 ?_
  refine M_iast X dX9_toMail_27 (by decide) rfl (hs) ?_
  refine V_vret X dX9_toMail_28 ?_ ?_ ?_
  · dsimp only [rmm]; omega
  · dsimp only [rmm]; omega
  exact ⟨rfl, rfl⟩
def lp (f : Nat → St → St) : Nat → St → St
  | 0, S => S
  | n + 1, S => f n (lp f n S)
def dk1 (s num : Int32) (m : Nat) (S : St) : St := if S.1 54 m = 0 then S else if S.1 49 m = s then (if num < 0 then pa S 54 m 0 else if S.1 50 m = num then pa S 54 m 0 else S) else S
def dkS (S : St) (s num : Int32) : St := lp (dk1 s num) (nn (S.1 48 0)) S
theorem lp_k {f : Nat → St → St} {k i : Nat} (h : ∀ n S, (f n S).1 k i = S.1 k i) : ∀ (n : Nat) (S : St), (lp f n S).1 k i = S.1 k i
  | 0, _ => rfl
  | n + 1, S => (h n _).trans (lp_k h n S)
theorem dk1_k {s num : Int32} {k i : Nat} (h : k ≠ 54) (n : Nat) (S : St) : (dk1 s num n S).1 k i = S.1 k i := by
  unfold dk1
  split
  · rfl
  · split
    · split
      · exact pa_n S _ h
      · split
        · exact pa_n S _ h
        · rfl
    · rfl
set_option maxRecDepth 100000 in
set_option maxHeartbeats 4000000 in
theorem dk_loop {l : Launch} {Z : Zt} {S : St} {J : aH} {s num : Int32} {N : Nat} (hN : N ≤ 900) (e48 : S.1 48 0 = nI N) (X : Fx Z l (rmm 0 0 0 0) cX9_dropKept 4 RX9 none (fun r I' => r = none ∧ I' = ovl (dkS S s num) J)) : ∀ (m x : Nat) (S1 : St), N - x < m → x ≤ N → S1 = lp (dk1 s num) x S → V Z 4 (ovl S1 J) [some (.ref mO), some (.int s), some (.int num), some (.int (nI x))] [] 0 0 2
  | 0, _, _, _, _, _ => absurd (by assumption) (Nat.not_lt_zero _)
  | m + 1, x, S1, hm, hx, hS => by
    refine V_iload_n X dX9_dropKept_2 rfl ?_
    refine V_aload_n X dX9_dropKept_3 rfl rfl ?_
    refine M_geti X dX9_dropKept_4 fk_X9_205 (by decide) rfl ?_
    have e48b : S1.1 48 0 = nI N := by rw [hS, lp_k (dk1_k (by decide))]; exact e48
    rw [e48b]
    refine V_icmp_ge X dX9_dropKept_7 56 (by decide) (fun c_7 => ?_) (fun c_7 => ?_)
    · have hx2 : x = N := by
        rcases Nat.lt_or_ge x N with q | q
        · exact absurd c_7 (nI_ge q (by omega))
        · omega
      refine V_vret X dX9_dropKept_56 ?_ ?_ ?_
      · dsimp only [rmm]; omega
      · dsimp only [rmm]; omega
      refine ⟨rfl, ?_⟩
      rw [hS, dkS, e48, show nn (nI N) = N from nI_clamp (by omega), hx2]
    have hlt : x < N := by
      rcases Nat.lt_or_ge x N with q | q
      · exact q
      · exact absurd (nI_le q (by omega)) c_7
    refine V_aload_n X dX9_dropKept_10 rfl rfl ?_
    refine M_geta X dX9_dropKept_11 fk_X9_150 (by decide) rfl ?_
    refine V_iload_n X dX9_dropKept_14 rfl ?_
    refine M_zaldN X dX9_dropKept_15 (by decide) rfl (by omega) (by decide) ?_
    refine V_if_eq X dX9_dropKept_16 50 (by decide) (fun c_16 => ?_) (fun c_16 => ?_)
    · refine V_iinc X dX9_dropKept_50 rfl (by decide) rfl (nI (x + 1)) (nI_1 x) ?_
      refine V_goto X dX9_dropKept_53 2 (by decide) ?_
      refine dk_loop hN e48 X m (x + 1) _ (by omega) (by omega) ?_
      rw [lp, ← hS, dk1, if_pos c_16]
    refine V_aload_n X dX9_dropKept_19 rfl rfl ?_
    refine M_geta X dX9_dropKept_20 fk_X9_135 (by decide) rfl ?_
    refine V_iload_n X dX9_dropKept_23 rfl ?_
    refine M_ialdN X dX9_dropKept_24 (by decide) rfl (by omega) (by decide) ?_
    refine V_iload_n X dX9_dropKept_25 rfl ?_
    refine V_icmp_ne X dX9_dropKept_26 50 (by decide) (fun c_26 => ?_) (fun c_26 => ?_)
    · refine V_iinc X dX9_dropKept_50 rfl (by decide) rfl (nI (x + 1)) (nI_1 x) ?_
      refine V_goto X dX9_dropKept_53 2 (by decide) ?_
      refine dk_loop hN e48 X m (x + 1) _ (by omega) (by omega) ?_
      rw [lp, ← hS, dk1, if_neg c_16, if_neg c_26]
    refine V_iload_n X dX9_dropKept_29 rfl ?_
    refine V_if_lt X dX9_dropKept_30 43 (by decide) (fun c_30 => ?_) (fun c_30 => ?_)
    · refine V_aload_n X dX9_dropKept_43 rfl rfl ?_
      refine M_geta X dX9_dropKept_44 fk_X9_150 (by decide) rfl ?_
      refine V_iload_n X dX9_dropKept_47 rfl ?_
      refine V_iconst (v := 0) X dX9_dropKept_48 (by decide) ?_
      refine M_zastN X dX9_dropKept_49 (by decide) rfl (by omega) (by decide) (rfl) ?_
      refine V_iinc X dX9_dropKept_50 rfl (by decide) rfl (nI (x + 1)) (nI_1 x) ?_
      refine V_goto X dX9_dropKept_53 2 (by decide) ?_
      refine dk_loop hN e48 X m (x + 1) _ (by omega) (by omega) ?_
      rw [lp, ← hS, dk1, if_neg c_16, if_pos c_26, if_pos c_30]
    refine V_aload_n X dX9_dropKept_33 rfl rfl ?_
    refine M_geta X dX9_dropKept_34 fk_X9_138 (by decide) rfl ?_
    refine V_iload_n X dX9_dropKept_37 rfl ?_
    refine M_ialdN X dX9_dropKept_38 (by decide) rfl (by omega) (by decide) ?_
    refine V_iload_n X dX9_dropKept_39 rfl ?_
    refine V_icmp_ne X dX9_dropKept_40 50 (by decide) (fun c_40 => ?_) (fun c_40 => ?_)
    · refine V_iinc X dX9_dropKept_50 rfl (by decide) rfl (nI (x + 1)) (nI_1 x) ?_
      refine V_goto X dX9_dropKept_53 2 (by decide) ?_
      refine dk_loop hN e48 X m (x + 1) _ (by omega) (by omega) ?_
      rw [lp, ← hS, dk1, if_neg c_16, if_pos c_26, if_neg c_30, if_neg c_40]
    refine V_aload_n X dX9_dropKept_43 rfl rfl ?_
    refine M_geta X dX9_dropKept_44 fk_X9_150 (by decide) rfl ?_
    refine V_iload_n X dX9_dropKept_47 rfl ?_
    refine V_iconst (v := 0) X dX9_dropKept_48 (by decide) ?_
    refine M_zastN X dX9_dropKept_49 (by decide) rfl (by omega) (by decide) (rfl) ?_
    refine V_iinc X dX9_dropKept_50 rfl (by decide) rfl (nI (x + 1)) (nI_1 x) ?_
    refine V_goto X dX9_dropKept_53 2 (by decide) ?_
    refine dk_loop hN e48 X m (x + 1) _ (by omega) (by omega) ?_
    rw [lp, ← hS, dk1, if_neg c_16, if_pos c_26, if_neg c_30, if_pos c_40]
set_option maxRecDepth 100000 in
set_option maxHeartbeats 4000000 in
theorem c_dropKept (l : Launch) {S : St} {J : aH} {s num : Int32} (h48 : ct S 48 900) : AM l yX9_dropKept cX9_dropKept 4 none (rmm 0 0 0 0) [.ref mO, .int s, .int num] (ovl S J) (fun r I' => r = none ∧ I' = ovl (dkS S s num) J) := by
  obtain ⟨N, hN, e48⟩ := h48
  refine AM_of RX9 (by decide) rfl [some (.ref mO), some (.int s), some (.int num), none] rfl (Nat.le_of_ble_eq_true rfl) (fun Z X hNm => ?_)
  refine V_iconst (v := 0) X dX9_dropKept_0 (by decide) ?_
  refine V_istore_n X dX9_dropKept_1 (by decide) rfl ?_
  exact dk_loop hN e48 X (N + 1) 0 _ (by omega) (Nat.zero_le _) rfl
abbrev kpP (S : St) (s : Int32) (m : Nat) : Prop := ¬ S.1 54 m = 0 ∧ S.1 49 m = s
def kpN (S : St) (s : Int32) : Nat → Nat
  | 0 => 0
  | n + 1 => kpN S s n + (if kpP S s n then 1 else 0)
abbrev kpA (S : St) (s : Int32) : Nat := kpN S s (nn (S.1 48 0))
theorem kpN_t {S : St} {s : Int32} {n : Nat} (h : kpP S s n) : kpN S s (n + 1) = kpN S s n + 1 := by rw [kpN, if_pos h]
theorem kpN_f {S : St} {s : Int32} {n : Nat} (h : ¬ kpP S s n) : kpN S s (n + 1) = kpN S s n := by rw [kpN, if_neg h]; rfl
set_option maxRecDepth 100000 in
set_option maxHeartbeats 4000000 in
theorem kp_loop {l : Launch} {Z : Zt} {S : St} {J : aH} {s : Int32} {N : Nat} (hN : N ≤ 900) (e48 : S.1 48 0 = nI N) (X : Fx Z l (rmm 0 0 0 0) cX9_keptOf 4 RX9 (some .int) (fun r I' => r = some (.int (nI (kpA S s))) ∧ I' = ovl S J)) : ∀ (m x : Nat) (acc : Int32), N - x < m → x ≤ N → acc = nI (kpN S s x) → V Z 4 (ovl S J) [some (.ref mO), some (.int s), some (.int acc), some (.int (nI x))] [] 0 0 4
  | 0, _, _, _, _, _ => absurd (by assumption) (Nat.not_lt_zero _)
  | m + 1, x, acc, hm, hx, hacc => by
    refine V_iload_n X dX9_keptOf_4 rfl ?_
    refine V_aload_n X dX9_keptOf_5 rfl rfl ?_
    refine M_geti X dX9_keptOf_6 fk_X9_205 (by decide) rfl ?_
    rw [e48]
    refine V_icmp_ge X dX9_keptOf_9 45 (by decide) (fun c_9 => ?_) (fun c_9 => ?_)
    · have hx2 : x = N := by
        rcases Nat.lt_or_ge x N with q | q
        · exact absurd c_9 (nI_ge q (by omega))
        · omega
      refine V_iload_n X dX9_keptOf_45 rfl ?_
      refine V_iret X dX9_keptOf_46 ?_ ?_ ?_ ?_
      · exact rfl
      · dsimp only [rmm]; omega
      · dsimp only [rmm]; omega
      refine ⟨?_, rfl⟩
      rw [hacc, show kpA S s = kpN S s x from by show kpN S s (nn (S.1 48 0)) = _; rw [e48, show nn (nI N) = N from nI_clamp (by omega), hx2]]
    have hlt : x < N := by
      rcases Nat.lt_or_ge x N with q | q
      · exact q
      · exact absurd (nI_le q (by omega)) c_9
    refine V_iload_n X dX9_keptOf_12 rfl ?_
    refine V_aload_n X dX9_keptOf_13 rfl rfl ?_
    refine M_geta X dX9_keptOf_14 fk_X9_150 (by decide) rfl ?_
    refine V_iload_n X dX9_keptOf_17 rfl ?_
    refine M_zaldN X dX9_keptOf_18 (by decide) rfl (by omega) (by decide) ?_
    refine V_if_eq X dX9_keptOf_19 36 (by decide) (fun c_19 => ?_) (fun c_19 => ?_)
    · refine V_iconst (v := 0) X dX9_keptOf_36 (by decide) ?_
      refine V_iadd X dX9_keptOf_37 ?_
      refine V_istore_n X dX9_keptOf_38 (by decide) rfl ?_
      refine V_iinc X dX9_keptOf_39 rfl (by decide) rfl (nI (x + 1)) (nI_1 x) ?_
      refine V_goto X dX9_keptOf_42 4 (by decide) ?_
      refine kp_loop hN e48 X m (x + 1) _ (by omega) (by omega) ?_
      rw [kpN_f (fun q => q.1 c_19), hacc]; exact nI_add _ 0
    refine V_aload_n X dX9_keptOf_22 rfl rfl ?_
    refine M_geta X dX9_keptOf_23 fk_X9_135 (by decide) rfl ?_
    refine V_iload_n X dX9_keptOf_26 rfl ?_
    refine M_ialdN X dX9_keptOf_27 (by decide) rfl (by omega) (by decide) ?_
    refine V_iload_n X dX9_keptOf_28 rfl ?_
    refine V_icmp_ne X dX9_keptOf_29 36 (by decide) (fun c_29 => ?_) (fun c_29 => ?_)
    · refine V_iconst (v := 0) X dX9_keptOf_36 (by decide) ?_
      refine V_iadd X dX9_keptOf_37 ?_
      refine V_istore_n X dX9_keptOf_38 (by decide) rfl ?_
      refine V_iinc X dX9_keptOf_39 rfl (by decide) rfl (nI (x + 1)) (nI_1 x) ?_
      refine V_goto X dX9_keptOf_42 4 (by decide) ?_
      refine kp_loop hN e48 X m (x + 1) _ (by omega) (by omega) ?_
      rw [kpN_f (fun q => c_29 q.2), hacc]; exact nI_add _ 0
    refine V_iconst (v := 1) X dX9_keptOf_32 (by decide) ?_
    refine V_goto X dX9_keptOf_33 37 (by decide) ?_
    refine V_iadd X dX9_keptOf_37 ?_
    refine V_istore_n X dX9_keptOf_38 (by decide) rfl ?_
    refine V_iinc X dX9_keptOf_39 rfl (by decide) rfl (nI (x + 1)) (nI_1 x) ?_
    refine V_goto X dX9_keptOf_42 4 (by decide) ?_
    refine kp_loop hN e48 X m (x + 1) _ (by omega) (by omega) ?_
    rw [kpN_t ⟨c_19, c_29⟩, hacc]; exact nI_1 _
set_option maxRecDepth 100000 in
set_option maxHeartbeats 4000000 in
theorem c_keptOf9 (l : Launch) {S : St} {J : aH} {s : Int32} (h48 : ct S 48 900) : AM l yX9_keptOf cX9_keptOf 4 (some .int) (rmm 0 0 0 0) [.ref mO, .int s] (ovl S J) (fun r I' => r = some (.int (nI (kpA S s))) ∧ I' = ovl S J) := by
  obtain ⟨N, hN, e48⟩ := h48
  refine AM_of RX9 (by decide) rfl [some (.ref mO), some (.int s), none, none] rfl (Nat.le_of_ble_eq_true rfl) (fun Z X hNm => ?_)
  refine V_iconst (v := 0) X dX9_keptOf_0 (by decide) ?_
  refine V_istore_n X dX9_keptOf_1 (by decide) rfl ?_
  refine V_iconst (v := 0) X dX9_keptOf_2 (by decide) ?_
  refine V_istore_n X dX9_keptOf_3 (by decide) rfl ?_
  exact kp_loop hN e48 X (N + 1) 0 0 (by omega) (Nat.zero_le _) rfl
def ir1 (s : Int32) (i : Nat) (S : St) : St := pa S 33 i (if S.1 33 i = 0 then 0 else if S.1 34 i = s then 0 else 1)
theorem ir1_k {s : Int32} {k i : Nat} (h : k ≠ 33) (n : Nat) (S : St) : (ir1 s n S).1 k i = S.1 k i := pa_n S _ h
def remS (S : St) (s : Int32) : St := let S1 := pa S 16 (nn s) 0; dkS (lp (ir1 s) (nn (S1.1 32 0)) S1) s (-1)
set_option maxRecDepth 100000 in
set_option maxHeartbeats 4000000 in
theorem rm_loop {l : Launch} {Z : Zt} {S : St} {J : aH} {s : Int32} {N : Nat} (hN : N ≤ 60) (e32 : S.1 32 0 = nI N) (h48 : ct S 48 900) (X : Fx Z l (rmm 1 0 0 23) cX9_removeSub 3 RX9 none (fun r I' => r = none ∧ I' = ovl (remS S s) J)) : ∀ (m x : Nat) (S1 : St), N - x < m → x ≤ N → S1 = lp (ir1 s) x (pa S 16 (nn s) 0) → V Z 3 (ovl S1 J) [some (.ref mO), some (.int s), some (.int (nI x))] [] 0 0 9
  | 0, _, _, _, _, _ => absurd (by assumption) (Nat.not_lt_zero _)
  | m + 1, x, S1, hm, hx, hS => by
    refine V_iload_n X dX9_removeSub_9 rfl ?_
    refine V_aload_n X dX9_removeSub_10 rfl rfl ?_
    refine M_geti X dX9_removeSub_11 fk_X9_202 (by decide) rfl ?_
    have e32b : S1.1 32 0 = nI N := by rw [hS, lp_k (ir1_k (by decide)), pa_n S _ (by decide)]; exact e32
    rw [e32b]
    refine V_icmp_ge X dX9_removeSub_14 53 (by decide) (fun c_14 => ?_) (fun c_14 => ?_)
    · have hx2 : x = N := by
        rcases Nat.lt_or_ge x N with q | q
        · exact absurd c_14 (nI_ge q (by omega))
        · omega
      refine V_aload_n X dX9_removeSub_53 rfl rfl ?_
      refine V_iload_n X dX9_removeSub_54 rfl ?_
      refine V_iconst (v := (-1)) X dX9_removeSub_55 (by decide) ?_
      apply V_callV2 X dX9_removeSub_56 mk_X9_221 iv_X9_dropKept (c_dropKept l (by obtain ⟨M, hM, eM⟩ := h48; exact ⟨M, hM, by rw [hS, lp_k (ir1_k (by decide)), pa_n S _ (by decide)]; exact eM⟩))
      · first | assumption | exact hu_s | exact (hu_n (by first | exact kd_nk (by decide) | exact kd_ni (by omega) | exact kd_ng (by omega) | assumption | exact Ne.symm (by assumption))).trans (by first | assumption | exact hu_s | exact (hu_n (by first | exact kd_nk (by decide) | exact kd_ni (by omega) | exact kd_ng (by omega) | assumption | exact Ne.symm (by assumption))).trans (by first | assumption | exact hu_s | exact (hu_n (by first | exact kd_nk (by decide) | exact kd_ni (by omega) | exact kd_ng (by omega) | assumption | exact Ne.symm (by assumption))).trans (by first | assumption | exact hu_s)))
      · exact rfl
      · exact Nat.le_of_ble_eq_true rfl
      · exact ⟨Nat.le_of_ble_eq_true rfl, Nat.le_of_ble_eq_true rfl⟩
      · exact ⟨by dsimp only [rmm]; omega, by dsimp only [rmm]; omega⟩
      rintro r I1 ⟨rfl, rfl⟩
      refine V_vret X dX9_removeSub_59 ?_ ?_ ?_
      · dsimp only [rmm]; omega
      · dsimp only [rmm]; omega
      refine ⟨rfl, ?_⟩
      rw [remS, hS, hx2, pa_n S _ (by decide), e32, show nn (nI N) = N from nI_clamp (by omega)]
    have hlt : x < N := by
      rcases Nat.lt_or_ge x N with q | q
      · exact q
      · exact absurd (nI_le q (by omega)) c_14
    refine V_aload_n X dX9_removeSub_17 rfl rfl ?_
    refine M_geta X dX9_removeSub_18 fk_X9_90 (by decide) rfl ?_
    refine V_iload_n X dX9_removeSub_21 rfl ?_
    refine V_aload_n X dX9_removeSub_22 rfl rfl ?_
    refine M_geta X dX9_removeSub_23 fk_X9_90 (by decide) rfl ?_
    refine V_iload_n X dX9_removeSub_26 rfl ?_
    refine M_zaldN X dX9_removeSub_27 (by decide) rfl (by omega) (by decide) ?_
    refine V_if_eq X dX9_removeSub_28 45 (by decide) (fun c_28 => ?_) (fun c_28 => ?_)
    · refine V_iconst (v := 0) X dX9_removeSub_45 (by decide) ?_
      refine M_zastN X dX9_removeSub_46 (by decide) rfl (by omega) (by decide) (rfl) ?_
      refine V_iinc X dX9_removeSub_47 rfl (by decide) rfl (nI (x + 1)) (nI_1 x) ?_
      refine V_goto X dX9_removeSub_50 9 (by decide) ?_
      refine rm_loop hN e32 h48 X m (x + 1) _ (by omega) (by omega) ?_
      rw [lp, ← hS, ir1, if_pos c_28]
    refine V_aload_n X dX9_removeSub_31 rfl rfl ?_
    refine M_geta X dX9_removeSub_32 fk_X9_93 (by decide) rfl ?_
    refine V_iload_n X dX9_removeSub_35 rfl ?_
    refine M_ialdN X dX9_removeSub_36 (by decide) rfl (by omega) (by decide) ?_
    refine V_iload_n X dX9_removeSub_37 rfl ?_
    refine V_icmp_eq X dX9_removeSub_38 45 (by decide) (fun c_38 => ?_) (fun c_38 => ?_)
    · refine V_iconst (v := 0) X dX9_removeSub_45 (by decide) ?_
      refine M_zastN X dX9_removeSub_46 (by decide) rfl (by omega) (by decide) (rfl) ?_
      refine V_iinc X dX9_removeSub_47 rfl (by decide) rfl (nI (x + 1)) (nI_1 x) ?_
      refine V_goto X dX9_removeSub_50 9 (by decide) ?_
      refine rm_loop hN e32 h48 X m (x + 1) _ (by omega) (by omega) ?_
      rw [lp, ← hS, ir1, if_neg c_28, if_pos c_38]
    refine V_iconst (v := 1) X dX9_removeSub_41 (by decide) ?_
    refine V_goto X dX9_removeSub_42 46 (by decide) ?_
    refine M_zastN X dX9_removeSub_46 (by decide) rfl (by omega) (by decide) (rfl) ?_
    refine V_iinc X dX9_removeSub_47 rfl (by decide) rfl (nI (x + 1)) (nI_1 x) ?_
    refine V_goto X dX9_removeSub_50 9 (by decide) ?_
    refine rm_loop hN e32 h48 X m (x + 1) _ (by omega) (by omega) ?_
    rw [lp, ← hS, ir1, if_neg c_28, if_neg c_38]
set_option maxRecDepth 100000 in
set_option maxHeartbeats 4000000 in
theorem c_removeSub (l : Launch) {S : St} {J : aH} {s : Int32} (hb : vp_in s 20) (h32 : ct S 32 60) (h48 : ct S 48 900) : AM l yX9_removeSub cX9_removeSub 3 none (rmm 1 0 0 23) [.ref mO, .int s] (ovl S J) (fun r I' => r = none ∧ I' = ovl (remS S s) J) := by
  obtain ⟨N, hN, e32⟩ := h32
  refine AM_of RX9 (by decide) rfl [some (.ref mO), some (.int s), none] rfl (Nat.le_of_ble_eq_true rfl) (fun Z X hNm => ?_)
  refine V_aload_n X dX9_removeSub_0 rfl rfl ?_
  refine M_geta X dX9_removeSub_1 fk_X9_44 (by decide) rfl ?_
  refine V_iload_n X dX9_removeSub_4 rfl ?_
  refine V_iconst (v := 0) X dX9_removeSub_5 (by decide) ?_
  refine M_zast X dX9_removeSub_6 (by decide) rfl (hb) (rfl) ?_
  refine V_iconst (v := 0) X dX9_removeSub_7 (by decide) ?_
  refine V_istore_n X dX9_removeSub_8 (by decide) rfl ?_
  exact rm_loop hN e32 h48 X (N + 1) 0 _ (by omega) (Nat.zero_le _) rfl
