/-! the reads that count -/
def cn (p : Nat → Bool) : Nat → Nat
  | 0 => 0
  | n + 1 => cn p n + (if p n = true then 1 else 0)
theorem cn_t {p : Nat → Bool} {n : Nat} (h : p n = true) : cn p (n + 1) = cn p n + 1 := by rw [cn, if_pos h]
theorem cn_f {p : Nat → Bool} {n : Nat} (h : ¬ p n = true) : cn p (n + 1) = cn p n := by rw [cn, if_neg h]; rfl
theorem cn_le (p : Nat → Bool) : ∀ n, cn p n ≤ n
  | 0 => Nat.le_refl _
  | n + 1 => by
    have := cn_le p n
    rw [cn]
    split <;> omega
theorem nI_z (n : Nat) : nI n + 0 = nI n := nI_add n 0
def q_ses (S : St) (s x : Int32) : Int32 := if isSes S s then (if x = 0 then S.1 11 (nn s) else if x = 1 then S.1 10 (nn s) - S.1 0 0 else if x = 2 then S.1 12 (nn s) else if x = 3 then nI (cn (sbB S s) (nn (S.1 15 0))) else if x = 4 then S.1 13 (nn s) else -9) else -9
abbrev siP (S : St) (b : Int32) (i : Nat) : Prop := ¬ S.1 33 i = 0 ∧ S.1 34 i = b
def siB (S : St) (b : Int32) (i : Nat) : Bool := decide (siP S b i)
theorem siB_iff {S : St} {s : Int32} {k : Nat} : siB S s k = true ↔ siP S s k := decide_eq_true_iff
def q_sub (S : St) (b x : Int32) : Int32 := if isSub S b then (if S.1 16 (nn b) = 0 then -9 else if x = 0 then S.1 17 (nn b) else if x = 1 then (if S.1 23 (nn b) = 0 then 0 else 1) else if x = 2 then S.1 24 (nn b) else if x = 3 then S.1 25 (nn b) else if x = 4 then S.1 26 (nn b) else if x = 5 then (if S.1 28 (nn b) = 0 then 0 else 1) else if x = 6 then nI (cn (siB S b) (nn (S.1 32 0))) else if x = 7 then nI (kpA S b) else if x = 8 then (if rdy S b then 1 else 0) else -9) else -9
def oS (S : St) (i : Nat) : Bool := decide (¬ S.1 11 i = 2)
def oB (S : St) (i : Nat) : Bool := decide (¬ S.1 16 i = 0)
def oI (S : St) (i : Nat) : Bool := decide (¬ S.1 33 i = 0)
theorem oS_iff {S : St} {k : Nat} : oS S k = true ↔ ¬ S.1 11 k = 2 := decide_eq_true_iff
theorem oB_iff {S : St} {k : Nat} : oB S k = true ↔ ¬ S.1 16 k = 0 := decide_eq_true_iff
theorem oI_iff {S : St} {k : Nat} : oI S k = true ↔ ¬ S.1 33 k = 0 := decide_eq_true_iff
def q_stat (S : St) (x : Int32) : Int32 := if x = 0 then S.1 0 0 else if x = 1 then S.1 1 0 else if x = 2 then S.1 4 0 else if x = 3 then nI (cn (oS S) (nn (S.1 8 0))) else if x = 4 then nI (cn (oB S) (nn (S.1 15 0))) else if x = 5 then nI (cn (oI S) (nn (S.1 32 0))) else if x = 6 then S.1 48 0 else if 11 ≤ x ∧ x ≤ 19 then S.1 61 (nn (x - 10)) else -9
set_option maxRecDepth 100000 in
set_option maxHeartbeats 4000000 in
theorem ses_loop {l : Launch} {Z : Zt} {S : St} {J : aH} {s x : Int32} {N : Nat} (hN : N ≤ 20) (e15 : S.1 15 0 = nI N) (h8 : ct S 8 12) (hs : isSes S s) (X : Fx Z l (rmm 1 0 0 25) cX9_sessionOf 5 RX9 (some .int) (fun r I' => r = some (.int (q_ses S s x)) ∧ I' = ovl S J)) : ∀ (m y : Nat) (acc : Int32), N - y < m → y ≤ N → acc = nI (cn (sbB S s) y) → V Z 5 (ovl S J) [some (.ref mO), some (.int s), some (.int x), some (.int acc), some (.int (nI y))] [] 0 0 24
  | 0, _, _, _, _, _ => absurd (by assumption) (Nat.not_lt_zero _)
  | m + 1, y, acc, hm, hy, hacc => by
    refine V_iload X dX9_sessionOf_24 rfl ?_
    refine V_aload_n X dX9_sessionOf_26 rfl rfl ?_
    refine M_getiE (nI N) X dX9_sessionOf_27 fk_X9_224 (by decide) rfl (e15) ?_
    refine V_icmp_ge X dX9_sessionOf_30 68 (by decide) (fun c_30 => ?_) (fun c_30 => ?_)
    · have hx2 : y = N := by
        rcases Nat.lt_or_ge y (N) with z | z
        · exact absurd c_30 (nI_ge z (by omega))
        · omega
      refine V_iload_n X dX9_sessionOf_68 rfl ?_
      refine V_if_ne X dX9_sessionOf_69 81 (by decide) (fun c_69 => ?_) (fun c_69 => ?_)
      · refine V_iload_n X dX9_sessionOf_81 rfl ?_
        refine V_iconst (v := 1) X dX9_sessionOf_82 (by decide) ?_
        refine V_icmp_ne X dX9_sessionOf_83 100 (by decide) (fun c_83 => ?_) (fun c_83 => ?_)
        · refine V_iload_n X dX9_sessionOf_100 rfl ?_
          refine V_iconst (v := 2) X dX9_sessionOf_101 (by decide) ?_
          refine V_icmp_ne X dX9_sessionOf_102 114 (by decide) (fun c_102 => ?_) (fun c_102 => ?_)
          · refine V_iload_n X dX9_sessionOf_114 rfl ?_
            refine V_iconst (v := 3) X dX9_sessionOf_115 (by decide) ?_
            refine V_icmp_ne X dX9_sessionOf_116 123 (by decide) (fun c_116 => ?_) (fun c_116 => ?_)
            · refine V_iload_n X dX9_sessionOf_123 rfl ?_
              refine V_iconst (v := 4) X dX9_sessionOf_124 (by decide) ?_
              refine V_icmp_ne X dX9_sessionOf_125 137 (by decide) (fun c_125 => ?_) (fun c_125 => ?_)
              · refine V_bipush (v := (-9)) X dX9_sessionOf_137 (by decide) ?_
                refine V_iret X dX9_sessionOf_139 ?_ ?_ ?_ ?_
                · exact rfl
                · dsimp only [rmm]; omega
                · dsimp only [rmm]; omega
                refine ⟨?_, rfl⟩
                simp only [q_ses, if_pos hs, if_neg c_69, if_neg c_83, if_neg c_102, if_neg c_116, if_neg c_125]
              refine V_aload_n X dX9_sessionOf_128 rfl rfl ?_
              refine M_geta X dX9_sessionOf_129 fk_X9_38 (by decide) rfl ?_
              refine V_iload_n X dX9_sessionOf_132 rfl ?_
              refine M_iald X dX9_sessionOf_133 (by decide) rfl (ses_in h8 hs) ?_
              refine V_goto X dX9_sessionOf_134 139 (by decide) ?_
              refine V_iret X dX9_sessionOf_139 ?_ ?_ ?_ ?_
              · exact rfl
              · dsimp only [rmm]; omega
              · dsimp only [rmm]; omega
              refine ⟨?_, rfl⟩
              simp only [q_ses, if_pos hs, if_neg c_69, if_neg c_83, if_neg c_102, if_neg c_116, if_pos c_125]
            refine V_iload_n X dX9_sessionOf_119 rfl ?_
            refine V_goto X dX9_sessionOf_120 139 (by decide) ?_
            refine V_iret X dX9_sessionOf_139 ?_ ?_ ?_ ?_
            · exact rfl
            · dsimp only [rmm]; omega
            · dsimp only [rmm]; omega
            refine ⟨?_, rfl⟩
            simp only [q_ses, if_pos hs, if_neg c_69, if_neg c_83, if_neg c_102, if_pos c_116]
            rw [hacc, hx2, show nn (S.1 15 0) = N from by rw [e15]; exact nnI (by omega)]
          refine V_aload_n X dX9_sessionOf_105 rfl rfl ?_
          refine M_geta X dX9_sessionOf_106 fk_X9_35 (by decide) rfl ?_
          refine V_iload_n X dX9_sessionOf_109 rfl ?_
          refine M_iald X dX9_sessionOf_110 (by decide) rfl (ses_in h8 hs) ?_
          refine V_goto X dX9_sessionOf_111 139 (by decide) ?_
          refine V_iret X dX9_sessionOf_139 ?_ ?_ ?_ ?_
          · exact rfl
          · dsimp only [rmm]; omega
          · dsimp only [rmm]; omega
          refine ⟨?_, rfl⟩
          simp only [q_ses, if_pos hs, if_neg c_69, if_neg c_83, if_pos c_102]
        refine V_aload_n X dX9_sessionOf_86 rfl rfl ?_
        refine M_geta X dX9_sessionOf_87 fk_X9_29 (by decide) rfl ?_
        refine V_iload_n X dX9_sessionOf_90 rfl ?_
        refine M_iald X dX9_sessionOf_91 (by decide) rfl (ses_in h8 hs) ?_
        refine V_aload_n X dX9_sessionOf_92 rfl rfl ?_
        refine M_geti X dX9_sessionOf_93 fk_X9_199 (by decide) rfl ?_
        refine V_isub X dX9_sessionOf_96 ?_
        refine V_goto X dX9_sessionOf_97 139 (by decide) ?_
        refine V_iret X dX9_sessionOf_139 ?_ ?_ ?_ ?_
        · exact rfl
        · dsimp only [rmm]; omega
        · dsimp only [rmm]; omega
        refine ⟨?_, rfl⟩
        simp only [q_ses, if_pos hs, if_neg c_69, if_pos c_83]
      refine V_aload_n X dX9_sessionOf_72 rfl rfl ?_
      refine M_geta X dX9_sessionOf_73 fk_X9_32 (by decide) rfl ?_
      refine V_iload_n X dX9_sessionOf_76 rfl ?_
      refine M_iald X dX9_sessionOf_77 (by decide) rfl (ses_in h8 hs) ?_
      refine V_goto X dX9_sessionOf_78 139 (by decide) ?_
      refine V_iret X dX9_sessionOf_139 ?_ ?_ ?_ ?_
      · exact rfl
      · dsimp only [rmm]; omega
      · dsimp only [rmm]; omega
      refine ⟨?_, rfl⟩
      simp only [q_ses, if_pos hs, if_pos c_69]
    have hlt : y < N := by
      rcases Nat.lt_or_ge y (N) with z | z
      · exact z
      · exact absurd (nI_le z (by omega)) c_30
    refine V_iload_n X dX9_sessionOf_33 rfl ?_
    refine V_aload_n X dX9_sessionOf_34 rfl rfl ?_
    refine M_geta X dX9_sessionOf_35 fk_X9_44 (by decide) rfl ?_
    refine V_iload X dX9_sessionOf_38 rfl ?_
    refine M_zaldN X dX9_sessionOf_40 (by decide) rfl (by omega) (by decide) ?_
    refine V_if_eq X dX9_sessionOf_41 59 (by decide) (fun c_41 => ?_) (fun c_41 => ?_)
    · refine V_iconst (v := 0) X dX9_sessionOf_59 (by decide) ?_
      refine V_iadd X dX9_sessionOf_60 ?_
      refine V_istore_n X dX9_sessionOf_61 (by decide) rfl ?_
      refine V_iinc X dX9_sessionOf_62 rfl (by decide) rfl (nI (y + 1)) (nI_1 y) ?_
      refine V_goto X dX9_sessionOf_65 24 (by decide) ?_
      refine ses_loop hN e15 h8 hs X m (y + 1) _ (by omega) (by omega) ?_
      rw [cn_f (fun q => (sbB_iff.mp q).1 c_41), hacc]; exact nI_z _
    refine V_aload_n X dX9_sessionOf_44 rfl rfl ?_
    refine M_geta X dX9_sessionOf_45 fk_X9_48 (by decide) rfl ?_
    refine V_iload X dX9_sessionOf_48 rfl ?_
    refine M_ialdN X dX9_sessionOf_50 (by decide) rfl (by omega) (by decide) ?_
    refine V_iload_n X dX9_sessionOf_51 rfl ?_
    refine V_icmp_ne X dX9_sessionOf_52 59 (by decide) (fun c_52 => ?_) (fun c_52 => ?_)
    · refine V_iconst (v := 0) X dX9_sessionOf_59 (by decide) ?_
      refine V_iadd X dX9_sessionOf_60 ?_
      refine V_istore_n X dX9_sessionOf_61 (by decide) rfl ?_
      refine V_iinc X dX9_sessionOf_62 rfl (by decide) rfl (nI (y + 1)) (nI_1 y) ?_
      refine V_goto X dX9_sessionOf_65 24 (by decide) ?_
      refine ses_loop hN e15 h8 hs X m (y + 1) _ (by omega) (by omega) ?_
      rw [cn_f (fun q => c_52 (sbB_iff.mp q).2), hacc]; exact nI_z _
    refine V_iconst (v := 1) X dX9_sessionOf_55 (by decide) ?_
    refine V_goto X dX9_sessionOf_56 60 (by decide) ?_
    refine V_iadd X dX9_sessionOf_60 ?_
    refine V_istore_n X dX9_sessionOf_61 (by decide) rfl ?_
    refine V_iinc X dX9_sessionOf_62 rfl (by decide) rfl (nI (y + 1)) (nI_1 y) ?_
    refine V_goto X dX9_sessionOf_65 24 (by decide) ?_
    refine ses_loop hN e15 h8 hs X m (y + 1) _ (by omega) (by omega) ?_
    rw [cn_t (sbB_iff.mpr ⟨c_41, c_52⟩), hacc]; exact nI_1 _
set_option maxRecDepth 100000 in
set_option maxHeartbeats 4000000 in
theorem m_ses (l : Launch) {S : St} {J : aH} {s x : Int32} (h8 : ct S 8 12) (h15 : ct S 15 20) : AM l yX9_sessionOf cX9_sessionOf 5 (some .int) (rmm 1 0 0 25) [.ref mO, .int s, .int x] (ovl S J) (fun r I' => r = some (.int (q_ses S s x)) ∧ I' = ovl S J) := by
  obtain ⟨N8, hN8, e8⟩ := id h8
  obtain ⟨N, hN, e15⟩ := id h15
  refine AM_of RX9 (by decide) rfl [some (.ref mO), some (.int s), some (.int x), none, none] rfl (Nat.le_of_ble_eq_true rfl) (fun Z X hNm => ?_)
  refine V_iload_n X dX9_sessionOf_0 rfl ?_
  refine V_i2l X dX9_sessionOf_1 ?_
  refine V_lconst (v := 0) X dX9_sessionOf_2 (by decide) ?_
  refine V_aload_n X dX9_sessionOf_3 rfl rfl ?_
  refine M_geti X dX9_sessionOf_4 fk_X9_248 (by decide) rfl ?_
  refine V_iconst (v := 1) X dX9_sessionOf_7 (by decide) ?_
  refine V_isub X dX9_sessionOf_8 ?_
  refine V_i2l X dX9_sessionOf_9 ?_
  refine V_callS3 X dX9_sessionOf_10 mk_X9_171 st_X9_in (c_inX l (N := N8) (by omega) e8) (Nat.le_of_ble_eq_true rfl) ⟨Nat.le_of_ble_eq_true rfl, Nat.le_of_ble_eq_true rfl⟩ ?_ ?_
  · exact ⟨by dsimp only [rmm]; omega, by dsimp only [rmm]; omega⟩
  rintro r I1 ⟨rfl, rfl⟩
  refine V_if_ne X dX9_sessionOf_13 19 (by decide) (fun c_13 => ?_) (fun c_13 => ?_)
  · have h_13 := bz_t c_13
    refine V_iconst (v := 0) X dX9_sessionOf_19 (by decide) ?_
    refine V_istore_n X dX9_sessionOf_20 (by decide) rfl ?_
    refine V_iconst (v := 0) X dX9_sessionOf_21 (by decide) ?_
    refine V_istore X dX9_sessionOf_22 (by decide) rfl ?_
    exact ses_loop hN e15 h8 h_13 X (N + 1) 0 0 (by omega) (Nat.zero_le _) rfl
  have h_13 := bz_f c_13
  refine V_bipush (v := (-9)) X dX9_sessionOf_16 (by decide) ?_
  refine V_iret X dX9_sessionOf_18 ?_ ?_ ?_ ?_
  · exact rfl
  · dsimp only [rmm]; omega
  · dsimp only [rmm]; omega
  exact ⟨by rw [q_ses, if_neg h_13], rfl⟩
set_option maxRecDepth 100000 in
set_option maxHeartbeats 4000000 in
theorem sub_loop {l : Launch} {Z : Zt} {S : St} {J : aH} {b x : Int32} {N : Nat} (hN : N ≤ 60) (e32 : S.1 32 0 = nI N) (h15 : ct S 15 20) (h48 : ct S 48 900) (hs : isSub S b) (h16 : ¬ S.1 16 (nn b) = 0) (X : Fx Z l (rmm 1 0 0 30) cX9_subscription 5 RX9 (some .int) (fun r I' => r = some (.int (q_sub S b x)) ∧ I' = ovl S J)) : ∀ (m y : Nat) (acc : Int32), N - y < m → y ≤ N → acc = nI (cn (siB S b) y) → V Z 5 (ovl S J) [some (.ref mO), some (.int b), some (.int x), some (.int acc), some (.int (nI y))] [] 0 0 33
  | 0, _, _, _, _, _ => absurd (by assumption) (Nat.not_lt_zero _)
  | m + 1, y, acc, hm, hy, hacc => by
    refine V_iload X dX9_subscription_33 rfl ?_
    refine V_aload_n X dX9_subscription_35 rfl rfl ?_
    refine M_getiE (nI N) X dX9_subscription_36 fk_X9_202 (by decide) rfl (e32) ?_
    refine V_icmp_ge X dX9_subscription_39 77 (by decide) (fun c_39 => ?_) (fun c_39 => ?_)
    · have hx2 : y = N := by
        rcases Nat.lt_or_ge y (N) with z | z
        · exact absurd c_39 (nI_ge z (by omega))
        · omega
      refine V_iload_n X dX9_subscription_77 rfl ?_
      by_cases t_78_0 : x = 0
      · refine V_tableIn (off := 46) X dX9_subscription_78 (by rw [t_78_0]; decide) (by rw [t_78_0]; decide) (by rw [t_78_0]; rfl) 124 (by decide) ?_
        refine V_aload_n X dX9_subscription_124 rfl rfl ?_
        refine M_geta X dX9_subscription_125 fk_X9_48 (by decide) rfl ?_
        refine V_iload_n X dX9_subscription_128 rfl ?_
        refine M_iald X dX9_subscription_129 (by decide) rfl (sub_in h15 hs) ?_
        refine V_iret X dX9_subscription_130 ?_ ?_ ?_ ?_
        · exact rfl
        · dsimp only [rmm]; omega
        · dsimp only [rmm]; omega
        refine ⟨?_, rfl⟩
        simp only [q_sub, if_pos hs, if_neg h16, if_pos t_78_0]
      by_cases t_78_1 : x = 1
      · refine V_tableIn (off := 53) X dX9_subscription_78 (by rw [t_78_1]; decide) (by rw [t_78_1]; decide) (by rw [t_78_1]; rfl) 131 (by decide) ?_
        refine V_aload_n X dX9_subscription_131 rfl rfl ?_
        refine M_geta X dX9_subscription_132 fk_X9_66 (by decide) rfl ?_
        refine V_iload_n X dX9_subscription_135 rfl ?_
        refine M_zald X dX9_subscription_136 (by decide) rfl (sub_in h15 hs) ?_
        refine V_if_eq X dX9_subscription_137 144 (by decide) (fun c_137 => ?_) (fun c_137 => ?_)
        · refine V_iconst (v := 0) X dX9_subscription_144 (by decide) ?_
          refine V_iret X dX9_subscription_145 ?_ ?_ ?_ ?_
          · exact rfl
          · dsimp only [rmm]; omega
          · dsimp only [rmm]; omega
          refine ⟨?_, rfl⟩
          simp only [q_sub, if_pos hs, if_neg h16, if_neg t_78_0, if_pos t_78_1, if_pos c_137]
        refine V_iconst (v := 1) X dX9_subscription_140 (by decide) ?_
        refine V_goto X dX9_subscription_141 145 (by decide) ?_
        refine V_iret X dX9_subscription_145 ?_ ?_ ?_ ?_
        · exact rfl
        · dsimp only [rmm]; omega
        · dsimp only [rmm]; omega
        refine ⟨?_, rfl⟩
        simp only [q_sub, if_pos hs, if_neg h16, if_neg t_78_0, if_pos t_78_1, if_neg c_137]
      by_cases t_78_2 : x = 2
      · refine V_tableIn (off := 68) X dX9_subscription_78 (by rw [t_78_2]; decide) (by rw [t_78_2]; decide) (by rw [t_78_2]; rfl) 146 (by decide) ?_
        refine V_aload_n X dX9_subscription_146 rfl rfl ?_
        refine M_geta X dX9_subscription_147 fk_X9_69 (by decide) rfl ?_
        refine V_iload_n X dX9_subscription_150 rfl ?_
        refine M_iald X dX9_subscription_151 (by decide) rfl (sub_in h15 hs) ?_
        refine V_iret X dX9_subscription_152 ?_ ?_ ?_ ?_
        · exact rfl
        · dsimp only [rmm]; omega
        · dsimp only [rmm]; omega
        refine ⟨?_, rfl⟩
        simp only [q_sub, if_pos hs, if_neg h16, if_neg t_78_0, if_neg t_78_1, if_pos t_78_2]
      by_cases t_78_3 : x = 3
      · refine V_tableIn (off := 75) X dX9_subscription_78 (by rw [t_78_3]; decide) (by rw [t_78_3]; decide) (by rw [t_78_3]; rfl) 153 (by decide) ?_
        refine V_aload_n X dX9_subscription_153 rfl rfl ?_
        refine M_geta X dX9_subscription_154 fk_X9_72 (by decide) rfl ?_
        refine V_iload_n X dX9_subscription_157 rfl ?_
        refine M_iald X dX9_subscription_158 (by decide) rfl (sub_in h15 hs) ?_
        refine V_iret X dX9_subscription_159 ?_ ?_ ?_ ?_
        · exact rfl
        · dsimp only [rmm]; omega
        · dsimp only [rmm]; omega
        refine ⟨?_, rfl⟩
        simp only [q_sub, if_pos hs, if_neg h16, if_neg t_78_0, if_neg t_78_1, if_neg t_78_2, if_pos t_78_3]
      by_cases t_78_4 : x = 4
      · refine V_tableIn (off := 82) X dX9_subscription_78 (by rw [t_78_4]; decide) (by rw [t_78_4]; decide) (by rw [t_78_4]; rfl) 160 (by decide) ?_
        refine V_aload_n X dX9_subscription_160 rfl rfl ?_
        refine M_geta X dX9_subscription_161 fk_X9_75 (by decide) rfl ?_
        refine V_iload_n X dX9_subscription_164 rfl ?_
        refine M_iald X dX9_subscription_165 (by decide) rfl (sub_in h15 hs) ?_
        refine V_iret X dX9_subscription_166 ?_ ?_ ?_ ?_
        · exact rfl
        · dsimp only [rmm]; omega
        · dsimp only [rmm]; omega
        refine ⟨?_, rfl⟩
        simp only [q_sub, if_pos hs, if_neg h16, if_neg t_78_0, if_neg t_78_1, if_neg t_78_2, if_neg t_78_3, if_pos t_78_4]
      by_cases t_78_5 : x = 5
      · refine V_tableIn (off := 89) X dX9_subscription_78 (by rw [t_78_5]; decide) (by rw [t_78_5]; decide) (by rw [t_78_5]; rfl) 167 (by decide) ?_
        refine V_aload_n X dX9_subscription_167 rfl rfl ?_
        refine M_geta X dX9_subscription_168 fk_X9_81 (by decide) rfl ?_
        refine V_iload_n X dX9_subscription_171 rfl ?_
        refine M_zald X dX9_subscription_172 (by decide) rfl (sub_in h15 hs) ?_
        refine V_if_eq X dX9_subscription_173 180 (by decide) (fun c_173 => ?_) (fun c_173 => ?_)
        · refine V_iconst (v := 0) X dX9_subscription_180 (by decide) ?_
          refine V_iret X dX9_subscription_181 ?_ ?_ ?_ ?_
          · exact rfl
          · dsimp only [rmm]; omega
          · dsimp only [rmm]; omega
          refine ⟨?_, rfl⟩
          simp only [q_sub, if_pos hs, if_neg h16, if_neg t_78_0, if_neg t_78_1, if_neg t_78_2, if_neg t_78_3, if_neg t_78_4, if_pos t_78_5, if_pos c_173]
        refine V_iconst (v := 1) X dX9_subscription_176 (by decide) ?_
        refine V_goto X dX9_subscription_177 181 (by decide) ?_
        refine V_iret X dX9_subscription_181 ?_ ?_ ?_ ?_
        · exact rfl
        · dsimp only [rmm]; omega
        · dsimp only [rmm]; omega
        refine ⟨?_, rfl⟩
        simp only [q_sub, if_pos hs, if_neg h16, if_neg t_78_0, if_neg t_78_1, if_neg t_78_2, if_neg t_78_3, if_neg t_78_4, if_pos t_78_5, if_neg c_173]
      by_cases t_78_6 : x = 6
      · refine V_tableIn (off := 104) X dX9_subscription_78 (by rw [t_78_6]; decide) (by rw [t_78_6]; decide) (by rw [t_78_6]; rfl) 182 (by decide) ?_
        refine V_iload_n X dX9_subscription_182 rfl ?_
        refine V_iret X dX9_subscription_183 ?_ ?_ ?_ ?_
        · exact rfl
        · dsimp only [rmm]; omega
        · dsimp only [rmm]; omega
        refine ⟨?_, rfl⟩
        simp only [q_sub, if_pos hs, if_neg h16, if_neg t_78_0, if_neg t_78_1, if_neg t_78_2, if_neg t_78_3, if_neg t_78_4, if_neg t_78_5, if_pos t_78_6]
        rw [hacc, hx2, show nn (S.1 32 0) = N from by rw [e32]; exact nnI (by omega)]
      by_cases t_78_7 : x = 7
      · refine V_tableIn (off := 106) X dX9_subscription_78 (by rw [t_78_7]; decide) (by rw [t_78_7]; decide) (by rw [t_78_7]; rfl) 184 (by decide) ?_
        refine V_aload_n X dX9_subscription_184 rfl rfl ?_
        refine V_iload_n X dX9_subscription_185 rfl ?_
        apply V_callV1 X dX9_subscription_186 mk_X9_211 iv_X9_keptOf (c_keptOf9 l h48)
        · first | assumption | exact hu_s | exact (hu_n (by first | exact kd_nk (by decide) | exact kd_ni (by omega) | exact kd_ng (by omega) | assumption | exact Ne.symm (by assumption))).trans (by first | assumption | exact hu_s | exact (hu_n (by first | exact kd_nk (by decide) | exact kd_ni (by omega) | exact kd_ng (by omega) | assumption | exact Ne.symm (by assumption))).trans (by first | assumption | exact hu_s | exact (hu_n (by first | exact kd_nk (by decide) | exact kd_ni (by omega) | exact kd_ng (by omega) | assumption | exact Ne.symm (by assumption))).trans (by first | assumption | exact hu_s)))
        · exact rfl
        · exact Nat.le_of_ble_eq_true rfl
        · exact ⟨Nat.le_of_ble_eq_true rfl, Nat.le_of_ble_eq_true rfl⟩
        · exact ⟨by dsimp only [rmm]; omega, by dsimp only [rmm]; omega⟩
        rintro r I1 ⟨rfl, rfl⟩
        refine V_iret X dX9_subscription_189 ?_ ?_ ?_ ?_
        · exact rfl
        · dsimp only [rmm]; omega
        · dsimp only [rmm]; omega
        refine ⟨?_, rfl⟩
        simp only [q_sub, if_pos hs, if_neg h16, if_neg t_78_0, if_neg t_78_1, if_neg t_78_2, if_neg t_78_3, if_neg t_78_4, if_neg t_78_5, if_neg t_78_6, if_pos t_78_7]
      have n_78_0 : (x).toInt ≠ 0 := fun q => t_78_0 ((fa_eq _ _).mpr (q.trans rfl))
      have n_78_1 : (x).toInt ≠ 1 := fun q => t_78_1 ((fa_eq _ _).mpr (q.trans rfl))
      have n_78_2 : (x).toInt ≠ 2 := fun q => t_78_2 ((fa_eq _ _).mpr (q.trans rfl))
      have n_78_3 : (x).toInt ≠ 3 := fun q => t_78_3 ((fa_eq _ _).mpr (q.trans rfl))
      have n_78_4 : (x).toInt ≠ 4 := fun q => t_78_4 ((fa_eq _ _).mpr (q.trans rfl))
      have n_78_5 : (x).toInt ≠ 5 := fun q => t_78_5 ((fa_eq _ _).mpr (q.trans rfl))
      have n_78_6 : (x).toInt ≠ 6 := fun q => t_78_6 ((fa_eq _ _).mpr (q.trans rfl))
      have n_78_7 : (x).toInt ≠ 7 := fun q => t_78_7 ((fa_eq _ _).mpr (q.trans rfl))
      refine V_tableOut X dX9_subscription_78 (by omega) 190 (by decide) ?_
      refine V_iload_n X dX9_subscription_190 rfl ?_
      refine V_bipush (v := 8) X dX9_subscription_191 (by decide) ?_
      refine V_icmp_ne X dX9_subscription_193 212 (by decide) (fun c_193 => ?_) (fun c_193 => ?_)
      · refine V_bipush (v := (-9)) X dX9_subscription_212 (by decide) ?_
        refine V_iret X dX9_subscription_214 ?_ ?_ ?_ ?_
        · exact rfl
        · dsimp only [rmm]; omega
        · dsimp only [rmm]; omega
        refine ⟨?_, rfl⟩
        simp only [q_sub, if_pos hs, if_neg h16, if_neg t_78_0, if_neg t_78_1, if_neg t_78_2, if_neg t_78_3, if_neg t_78_4, if_neg t_78_5, if_neg t_78_6, if_neg t_78_7, if_neg c_193]
      refine V_aload_n X dX9_subscription_196 rfl rfl ?_
      refine V_iload_n X dX9_subscription_197 rfl ?_
      apply V_callV1 X dX9_subscription_198 mk_X9_208 iv_X9_isReady (c_ready l ⟨N, hN, e32⟩ (sub_in h15 hs))
      · first | assumption | exact hu_s | exact (hu_n (by first | exact kd_nk (by decide) | exact kd_ni (by omega) | exact kd_ng (by omega) | assumption | exact Ne.symm (by assumption))).trans (by first | assumption | exact hu_s | exact (hu_n (by first | exact kd_nk (by decide) | exact kd_ni (by omega) | exact kd_ng (by omega) | assumption | exact Ne.symm (by assumption))).trans (by first | assumption | exact hu_s | exact (hu_n (by first | exact kd_nk (by decide) | exact kd_ni (by omega) | exact kd_ng (by omega) | assumption | exact Ne.symm (by assumption))).trans (by first | assumption | exact hu_s)))
      · exact rfl
      · exact Nat.le_of_ble_eq_true rfl
      · exact ⟨Nat.le_of_ble_eq_true rfl, Nat.le_of_ble_eq_true rfl⟩
      · exact ⟨by dsimp only [rmm]; omega, by dsimp only [rmm]; omega⟩
      rintro r I1 ⟨rfl, rfl⟩
      refine V_if_eq X dX9_subscription_201 208 (by decide) (fun c_201 => ?_) (fun c_201 => ?_)
      · have h_201 := bz_f c_201
        refine V_iconst (v := 0) X dX9_subscription_208 (by decide) ?_
        refine V_goto X dX9_subscription_209 214 (by decide) ?_
        refine V_iret X dX9_subscription_214 ?_ ?_ ?_ ?_
        · exact rfl
        · dsimp only [rmm]; omega
        · dsimp only [rmm]; omega
        refine ⟨?_, rfl⟩
        simp only [q_sub, if_pos hs, if_neg h16, if_neg t_78_0, if_neg t_78_1, if_neg t_78_2, if_neg t_78_3, if_neg t_78_4, if_neg t_78_5, if_neg t_78_6, if_neg t_78_7, if_pos c_193, if_neg h_201]
      have h_201 := bz_t c_201
      refine V_iconst (v := 1) X dX9_subscription_204 (by decide) ?_
      refine V_goto X dX9_subscription_205 214 (by decide) ?_
      refine V_iret X dX9_subscription_214 ?_ ?_ ?_ ?_
      · exact rfl
      · dsimp only [rmm]; omega
      · dsimp only [rmm]; omega
      refine ⟨?_, rfl⟩
      simp only [q_sub, if_pos hs, if_neg h16, if_neg t_78_0, if_neg t_78_1, if_neg t_78_2, if_neg t_78_3, if_neg t_78_4, if_neg t_78_5, if_neg t_78_6, if_neg t_78_7, if_pos c_193, if_pos h_201]
    have hlt : y < N := by
      rcases Nat.lt_or_ge y (N) with z | z
      · exact z
      · exact absurd (nI_le z (by omega)) c_39
    refine V_iload_n X dX9_subscription_42 rfl ?_
    refine V_aload_n X dX9_subscription_43 rfl rfl ?_
    refine M_geta X dX9_subscription_44 fk_X9_90 (by decide) rfl ?_
    refine V_iload X dX9_subscription_47 rfl ?_
    refine M_zaldN X dX9_subscription_49 (by decide) rfl (by omega) (by decide) ?_
    refine V_if_eq X dX9_subscription_50 68 (by decide) (fun c_50 => ?_) (fun c_50 => ?_)
    · refine V_iconst (v := 0) X dX9_subscription_68 (by decide) ?_
      refine V_iadd X dX9_subscription_69 ?_
      refine V_istore_n X dX9_subscription_70 (by decide) rfl ?_
      refine V_iinc X dX9_subscription_71 rfl (by decide) rfl (nI (y + 1)) (nI_1 y) ?_
      refine V_goto X dX9_subscription_74 33 (by decide) ?_
      refine sub_loop hN e32 h15 h48 hs h16 X m (y + 1) _ (by omega) (by omega) ?_
      rw [cn_f (fun q => (siB_iff.mp q).1 c_50), hacc]; exact nI_z _
    refine V_aload_n X dX9_subscription_53 rfl rfl ?_
    refine M_geta X dX9_subscription_54 fk_X9_93 (by decide) rfl ?_
    refine V_iload X dX9_subscription_57 rfl ?_
    refine M_ialdN X dX9_subscription_59 (by decide) rfl (by omega) (by decide) ?_
    refine V_iload_n X dX9_subscription_60 rfl ?_
    refine V_icmp_ne X dX9_subscription_61 68 (by decide) (fun c_61 => ?_) (fun c_61 => ?_)
    · refine V_iconst (v := 0) X dX9_subscription_68 (by decide) ?_
      refine V_iadd X dX9_subscription_69 ?_
      refine V_istore_n X dX9_subscription_70 (by decide) rfl ?_
      refine V_iinc X dX9_subscription_71 rfl (by decide) rfl (nI (y + 1)) (nI_1 y) ?_
      refine V_goto X dX9_subscription_74 33 (by decide) ?_
      refine sub_loop hN e32 h15 h48 hs h16 X m (y + 1) _ (by omega) (by omega) ?_
      rw [cn_f (fun q => c_61 (siB_iff.mp q).2), hacc]; exact nI_z _
    refine V_iconst (v := 1) X dX9_subscription_64 (by decide) ?_
    refine V_goto X dX9_subscription_65 69 (by decide) ?_
    refine V_iadd X dX9_subscription_69 ?_
    refine V_istore_n X dX9_subscription_70 (by decide) rfl ?_
    refine V_iinc X dX9_subscription_71 rfl (by decide) rfl (nI (y + 1)) (nI_1 y) ?_
    refine V_goto X dX9_subscription_74 33 (by decide) ?_
    refine sub_loop hN e32 h15 h48 hs h16 X m (y + 1) _ (by omega) (by omega) ?_
    rw [cn_t (siB_iff.mpr ⟨c_50, c_61⟩), hacc]; exact nI_1 _
set_option maxRecDepth 100000 in
set_option maxHeartbeats 4000000 in
theorem m_sub (l : Launch) {S : St} {J : aH} {b x : Int32} (h15 : ct S 15 20) (h32 : ct S 32 60) (h48 : ct S 48 900) : AM l yX9_subscription cX9_subscription 5 (some .int) (rmm 1 0 0 30) [.ref mO, .int b, .int x] (ovl S J) (fun r I' => r = some (.int (q_sub S b x)) ∧ I' = ovl S J) := by
  obtain ⟨N8, hN8, e8⟩ := id h15
  obtain ⟨N, hN, e32⟩ := id h32
  refine AM_of RX9 (by decide) rfl [some (.ref mO), some (.int b), some (.int x), none, none] rfl (Nat.le_of_ble_eq_true rfl) (fun Z X hNm => ?_)
  refine V_iload_n X dX9_subscription_0 rfl ?_
  refine V_i2l X dX9_subscription_1 ?_
  refine V_lconst (v := 0) X dX9_subscription_2 (by decide) ?_
  refine V_aload_n X dX9_subscription_3 rfl rfl ?_
  refine M_geti X dX9_subscription_4 fk_X9_224 (by decide) rfl ?_
  refine V_iconst (v := 1) X dX9_subscription_7 (by decide) ?_
  refine V_isub X dX9_subscription_8 ?_
  refine V_i2l X dX9_subscription_9 ?_
  refine V_callS3 X dX9_subscription_10 mk_X9_171 st_X9_in (c_inX l (N := N8) (by omega) e8) (Nat.le_of_ble_eq_true rfl) ⟨Nat.le_of_ble_eq_true rfl, Nat.le_of_ble_eq_true rfl⟩ ?_ ?_
  · exact ⟨by dsimp only [rmm]; omega, by dsimp only [rmm]; omega⟩
  rintro r I1 ⟨rfl, rfl⟩
  refine V_if_eq X dX9_subscription_13 25 (by decide) (fun c_13 => ?_) (fun c_13 => ?_)
  · have h_13 := bz_f c_13
    refine V_bipush (v := (-9)) X dX9_subscription_25 (by decide) ?_
    refine V_iret X dX9_subscription_27 ?_ ?_ ?_ ?_
    · exact rfl
    · dsimp only [rmm]; omega
    · dsimp only [rmm]; omega
    exact ⟨by rw [q_sub, if_neg h_13], rfl⟩
  have h_13 := bz_t c_13
  refine V_aload_n X dX9_subscription_16 rfl rfl ?_
  refine M_geta X dX9_subscription_17 fk_X9_44 (by decide) rfl ?_
  refine V_iload_n X dX9_subscription_20 rfl ?_
  refine M_zald X dX9_subscription_21 (by decide) rfl (sub_in h15 h_13) ?_
  refine V_if_ne X dX9_subscription_22 28 (by decide) (fun c_22 => ?_) (fun c_22 => ?_)
  · refine V_iconst (v := 0) X dX9_subscription_28 (by decide) ?_
    refine V_istore_n X dX9_subscription_29 (by decide) rfl ?_
    refine V_iconst (v := 0) X dX9_subscription_30 (by decide) ?_
    refine V_istore X dX9_subscription_31 (by decide) rfl ?_
    exact sub_loop hN e32 h15 h48 h_13 c_22 X (N + 1) 0 0 (by omega) (Nat.zero_le _) rfl
  refine V_bipush (v := (-9)) X dX9_subscription_25 (by decide) ?_
  refine V_iret X dX9_subscription_27 ?_ ?_ ?_ ?_
  · exact rfl
  · dsimp only [rmm]; omega
  · dsimp only [rmm]; omega
  exact ⟨by rw [q_sub, if_pos h_13, if_pos c_22], rfl⟩
set_option maxRecDepth 100000 in
set_option maxHeartbeats 4000000 in
theorem stat_s {l : Launch} {Z : Zt} {S : St} {J : aH} {x : Int32} {N : Nat} (hN : N ≤ 12) (e : S.1 8 0 = nI N) (eq : q_stat S x = nI (cn (oS S) N)) (X : Fx Z l (rmm 1 0 0 25) cX9_status 4 RX9 (some .int) (fun r I' => r = some (.int (q_stat S x)) ∧ I' = ovl S J)) : ∀ (m y : Nat) (acc : Int32), N - y < m → y ≤ N → acc = nI (cn (oS S) y) → V Z 4 (ovl S J) [some (.ref mO), some (.int x), some (.int acc), some (.int (nI y))] [] 0 0 61
  | 0, _, _, _, _, _ => absurd (by assumption) (Nat.not_lt_zero _)
  | m + 1, y, acc, hm, hy, hacc => by
    refine V_iload_n X dX9_status_61 rfl ?_
    refine V_aload_n X dX9_status_62 rfl rfl ?_
    refine M_getiE (nI N) X dX9_status_63 fk_X9_248 (by decide) rfl (e) ?_
    refine V_icmp_ge X dX9_status_66 93 (by decide) (fun c_66 => ?_) (fun c_66 => ?_)
    · have hx2 : y = N := by
        rcases Nat.lt_or_ge y (N) with z | z
        · exact absurd c_66 (nI_ge z (by omega))
        · omega
      refine V_iload_n X dX9_status_93 rfl ?_
      refine V_iret X dX9_status_94 ?_ ?_ ?_ ?_
      · exact rfl
      · dsimp only [rmm]; omega
      · dsimp only [rmm]; omega
      exact ⟨by rw [eq, hacc, hx2], rfl⟩
    have hlt : y < N := by
      rcases Nat.lt_or_ge y (N) with z | z
      · exact z
      · exact absurd (nI_le z (by omega)) c_66
    refine V_iload_n X dX9_status_69 rfl ?_
    refine V_aload_n X dX9_status_70 rfl rfl ?_
    refine M_geta X dX9_status_71 fk_X9_32 (by decide) rfl ?_
    refine V_iload_n X dX9_status_74 rfl ?_
    refine M_ialdN X dX9_status_75 (by decide) rfl (by omega) (by decide) ?_
    refine V_iconst (v := 2) X dX9_status_76 (by decide) ?_
    refine V_icmp_eq X dX9_status_77 84 (by decide) (fun c_77 => ?_) (fun c_77 => ?_)
    · refine V_iconst (v := 0) X dX9_status_84 (by decide) ?_
      refine V_iadd X dX9_status_85 ?_
      refine V_istore_n X dX9_status_86 (by decide) rfl ?_
      refine V_iinc X dX9_status_87 rfl (by decide) rfl (nI (y + 1)) (nI_1 y) ?_
      refine V_goto X dX9_status_90 61 (by decide) ?_
      refine stat_s hN e eq X m (y + 1) _ (by omega) (by omega) ?_
      rw [cn_f (fun q => (oS_iff.mp q) c_77), hacc]; exact nI_z _
    refine V_iconst (v := 1) X dX9_status_80 (by decide) ?_
    refine V_goto X dX9_status_81 85 (by decide) ?_
    refine V_iadd X dX9_status_85 ?_
    refine V_istore_n X dX9_status_86 (by decide) rfl ?_
    refine V_iinc X dX9_status_87 rfl (by decide) rfl (nI (y + 1)) (nI_1 y) ?_
    refine V_goto X dX9_status_90 61 (by decide) ?_
    refine stat_s hN e eq X m (y + 1) _ (by omega) (by omega) ?_
    rw [cn_t (oS_iff.mpr c_77), hacc]; exact nI_1 _
set_option maxRecDepth 100000 in
set_option maxHeartbeats 4000000 in
theorem stat_b {l : Launch} {Z : Zt} {S : St} {J : aH} {x : Int32} {N : Nat} (hN : N ≤ 20) (e : S.1 15 0 = nI N) (eq : q_stat S x = nI (cn (oB S) N)) (X : Fx Z l (rmm 1 0 0 25) cX9_status 4 RX9 (some .int) (fun r I' => r = some (.int (q_stat S x)) ∧ I' = ovl S J)) : ∀ (m y : Nat) (acc : Int32), N - y < m → y ≤ N → acc = nI (cn (oB S) y) → V Z 4 (ovl S J) [some (.ref mO), some (.int x), some (.int acc), some (.int (nI y))] [] 0 0 97
  | 0, _, _, _, _, _ => absurd (by assumption) (Nat.not_lt_zero _)
  | m + 1, y, acc, hm, hy, hacc => by
    refine V_iload_n X dX9_status_97 rfl ?_
    refine V_aload_n X dX9_status_98 rfl rfl ?_
    refine M_getiE (nI N) X dX9_status_99 fk_X9_224 (by decide) rfl (e) ?_
    refine V_icmp_ge X dX9_status_102 128 (by decide) (fun c_102 => ?_) (fun c_102 => ?_)
    · have hx2 : y = N := by
        rcases Nat.lt_or_ge y (N) with z | z
        · exact absurd c_102 (nI_ge z (by omega))
        · omega
      refine V_iload_n X dX9_status_128 rfl ?_
      refine V_iret X dX9_status_129 ?_ ?_ ?_ ?_
      · exact rfl
      · dsimp only [rmm]; omega
      · dsimp only [rmm]; omega
      exact ⟨by rw [eq, hacc, hx2], rfl⟩
    have hlt : y < N := by
      rcases Nat.lt_or_ge y (N) with z | z
      · exact z
      · exact absurd (nI_le z (by omega)) c_102
    refine V_iload_n X dX9_status_105 rfl ?_
    refine V_aload_n X dX9_status_106 rfl rfl ?_
    refine M_geta X dX9_status_107 fk_X9_44 (by decide) rfl ?_
    refine V_iload_n X dX9_status_110 rfl ?_
    refine M_zaldN X dX9_status_111 (by decide) rfl (by omega) (by decide) ?_
    refine V_if_eq X dX9_status_112 119 (by decide) (fun c_112 => ?_) (fun c_112 => ?_)
    · refine V_iconst (v := 0) X dX9_status_119 (by decide) ?_
      refine V_iadd X dX9_status_120 ?_
      refine V_istore_n X dX9_status_121 (by decide) rfl ?_
      refine V_iinc X dX9_status_122 rfl (by decide) rfl (nI (y + 1)) (nI_1 y) ?_
      refine V_goto X dX9_status_125 97 (by decide) ?_
      refine stat_b hN e eq X m (y + 1) _ (by omega) (by omega) ?_
      rw [cn_f (fun q => (oB_iff.mp q) c_112), hacc]; exact nI_z _
    refine V_iconst (v := 1) X dX9_status_115 (by decide) ?_
    refine V_goto X dX9_status_116 120 (by decide) ?_
    refine V_iadd X dX9_status_120 ?_
    refine V_istore_n X dX9_status_121 (by decide) rfl ?_
    refine V_iinc X dX9_status_122 rfl (by decide) rfl (nI (y + 1)) (nI_1 y) ?_
    refine V_goto X dX9_status_125 97 (by decide) ?_
    refine stat_b hN e eq X m (y + 1) _ (by omega) (by omega) ?_
    rw [cn_t (oB_iff.mpr c_112), hacc]; exact nI_1 _
set_option maxRecDepth 100000 in
set_option maxHeartbeats 4000000 in
theorem stat_i {l : Launch} {Z : Zt} {S : St} {J : aH} {x : Int32} {N : Nat} (hN : N ≤ 60) (e : S.1 32 0 = nI N) (eq : q_stat S x = nI (cn (oI S) N)) (X : Fx Z l (rmm 1 0 0 25) cX9_status 4 RX9 (some .int) (fun r I' => r = some (.int (q_stat S x)) ∧ I' = ovl S J)) : ∀ (m y : Nat) (acc : Int32), N - y < m → y ≤ N → acc = nI (cn (oI S) y) → V Z 4 (ovl S J) [some (.ref mO), some (.int x), some (.int acc), some (.int (nI y))] [] 0 0 132
  | 0, _, _, _, _, _ => absurd (by assumption) (Nat.not_lt_zero _)
  | m + 1, y, acc, hm, hy, hacc => by
    refine V_iload_n X dX9_status_132 rfl ?_
    refine V_aload_n X dX9_status_133 rfl rfl ?_
    refine M_getiE (nI N) X dX9_status_134 fk_X9_202 (by decide) rfl (e) ?_
    refine V_icmp_ge X dX9_status_137 163 (by decide) (fun c_137 => ?_) (fun c_137 => ?_)
    · have hx2 : y = N := by
        rcases Nat.lt_or_ge y (N) with z | z
        · exact absurd c_137 (nI_ge z (by omega))
        · omega
      refine V_iload_n X dX9_status_163 rfl ?_
      refine V_iret X dX9_status_164 ?_ ?_ ?_ ?_
      · exact rfl
      · dsimp only [rmm]; omega
      · dsimp only [rmm]; omega
      exact ⟨by rw [eq, hacc, hx2], rfl⟩
    have hlt : y < N := by
      rcases Nat.lt_or_ge y (N) with z | z
      · exact z
      · exact absurd (nI_le z (by omega)) c_137
    refine V_iload_n X dX9_status_140 rfl ?_
    refine V_aload_n X dX9_status_141 rfl rfl ?_
    refine M_geta X dX9_status_142 fk_X9_90 (by decide) rfl ?_
    refine V_iload_n X dX9_status_145 rfl ?_
    refine M_zaldN X dX9_status_146 (by decide) rfl (by omega) (by decide) ?_
    refine V_if_eq X dX9_status_147 154 (by decide) (fun c_147 => ?_) (fun c_147 => ?_)
    · refine V_iconst (v := 0) X dX9_status_154 (by decide) ?_
      refine V_iadd X dX9_status_155 ?_
      refine V_istore_n X dX9_status_156 (by decide) rfl ?_
      refine V_iinc X dX9_status_157 rfl (by decide) rfl (nI (y + 1)) (nI_1 y) ?_
      refine V_goto X dX9_status_160 132 (by decide) ?_
      refine stat_i hN e eq X m (y + 1) _ (by omega) (by omega) ?_
      rw [cn_f (fun q => (oI_iff.mp q) c_147), hacc]; exact nI_z _
    refine V_iconst (v := 1) X dX9_status_150 (by decide) ?_
    refine V_goto X dX9_status_151 155 (by decide) ?_
    refine V_iadd X dX9_status_155 ?_
    refine V_istore_n X dX9_status_156 (by decide) rfl ?_
    refine V_iinc X dX9_status_157 rfl (by decide) rfl (nI (y + 1)) (nI_1 y) ?_
    refine V_goto X dX9_status_160 132 (by decide) ?_
    refine stat_i hN e eq X m (y + 1) _ (by omega) (by omega) ?_
    rw [cn_t (oI_iff.mpr c_147), hacc]; exact nI_1 _
set_option maxRecDepth 100000 in
set_option maxHeartbeats 4000000 in
theorem m_stat (l : Launch) {S : St} {J : aH} {x : Int32} (h8 : ct S 8 12) (h15 : ct S 15 20) (h32 : ct S 32 60) : AM l yX9_status cX9_status 4 (some .int) (rmm 1 0 0 25) [.ref mO, .int x] (ovl S J) (fun r I' => r = some (.int (q_stat S x)) ∧ I' = ovl S J) := by
  refine AM_of RX9 (by decide) rfl [some (.ref mO), some (.int x), none, none] rfl (Nat.le_of_ble_eq_true rfl) (fun Z X hNm => ?_)
  refine V_iconst (v := 0) X dX9_status_0 (by decide) ?_
  refine V_istore_n X dX9_status_1 (by decide) rfl ?_
  refine V_iload_n X dX9_status_2 rfl ?_
  by_cases t_3_0 : x = 0
  · refine V_tableIn (off := 41) X dX9_status_3 (by rw [t_3_0]; decide) (by rw [t_3_0]; decide) (by rw [t_3_0]; rfl) 44 (by decide) ?_
    refine V_aload_n X dX9_status_44 rfl rfl ?_
    refine M_geti X dX9_status_45 fk_X9_199 (by decide) rfl ?_
    refine V_iret X dX9_status_48 ?_ ?_ ?_ ?_
    · exact rfl
    · dsimp only [rmm]; omega
    · dsimp only [rmm]; omega
    exact ⟨by simp only [q_stat, if_pos t_3_0], rfl⟩
  by_cases t_3_1 : x = 1
  · refine V_tableIn (off := 46) X dX9_status_3 (by rw [t_3_1]; decide) (by rw [t_3_1]; decide) (by rw [t_3_1]; rfl) 49 (by decide) ?_
    refine V_aload_n X dX9_status_49 rfl rfl ?_
    refine M_geti X dX9_status_50 fk_X9_179 (by decide) rfl ?_
    refine V_iret X dX9_status_53 ?_ ?_ ?_ ?_
    · exact rfl
    · dsimp only [rmm]; omega
    · dsimp only [rmm]; omega
    exact ⟨by simp only [q_stat, if_neg t_3_0, if_pos t_3_1], rfl⟩
  by_cases t_3_2 : x = 2
  · refine V_tableIn (off := 51) X dX9_status_3 (by rw [t_3_2]; decide) (by rw [t_3_2]; decide) (by rw [t_3_2]; rfl) 54 (by decide) ?_
    refine V_aload_n X dX9_status_54 rfl rfl ?_
    refine M_geti X dX9_status_55 fk_X9_189 (by decide) rfl ?_
    refine V_iret X dX9_status_58 ?_ ?_ ?_ ?_
    · exact rfl
    · dsimp only [rmm]; omega
    · dsimp only [rmm]; omega
    exact ⟨by simp only [q_stat, if_neg t_3_0, if_neg t_3_1, if_pos t_3_2], rfl⟩
  by_cases t_3_3 : x = 3
  · refine V_tableIn (off := 56) X dX9_status_3 (by rw [t_3_3]; decide) (by rw [t_3_3]; decide) (by rw [t_3_3]; rfl) 59 (by decide) ?_
    refine V_iconst (v := 0) X dX9_status_59 (by decide) ?_
    refine V_istore_n X dX9_status_60 (by decide) rfl ?_
    obtain ⟨N, hN, e⟩ := id h8
    exact stat_s hN e (by simp only [q_stat, if_neg t_3_0, if_neg t_3_1, if_neg t_3_2, if_pos t_3_3]; rw [e, nnI (by omega)]) X (N + 1) 0 0 (by omega) (Nat.zero_le _) rfl
  by_cases t_3_4 : x = 4
  · refine V_tableIn (off := 92) X dX9_status_3 (by rw [t_3_4]; decide) (by rw [t_3_4]; decide) (by rw [t_3_4]; rfl) 95 (by decide) ?_
    refine V_iconst (v := 0) X dX9_status_95 (by decide) ?_
    refine V_istore_n X dX9_status_96 (by decide) rfl ?_
    obtain ⟨N, hN, e⟩ := id h15
    exact stat_b hN e (by simp only [q_stat, if_neg t_3_0, if_neg t_3_1, if_neg t_3_2, if_neg t_3_3, if_pos t_3_4]; rw [e, nnI (by omega)]) X (N + 1) 0 0 (by omega) (Nat.zero_le _) rfl
  by_cases t_3_5 : x = 5
  · refine V_tableIn (off := 127) X dX9_status_3 (by rw [t_3_5]; decide) (by rw [t_3_5]; decide) (by rw [t_3_5]; rfl) 130 (by decide) ?_
    refine V_iconst (v := 0) X dX9_status_130 (by decide) ?_
    refine V_istore_n X dX9_status_131 (by decide) rfl ?_
    obtain ⟨N, hN, e⟩ := id h32
    exact stat_i hN e (by simp only [q_stat, if_neg t_3_0, if_neg t_3_1, if_neg t_3_2, if_neg t_3_3, if_neg t_3_4, if_pos t_3_5]; rw [e, nnI (by omega)]) X (N + 1) 0 0 (by omega) (Nat.zero_le _) rfl
  by_cases t_3_6 : x = 6
  · refine V_tableIn (off := 162) X dX9_status_3 (by rw [t_3_6]; decide) (by rw [t_3_6]; decide) (by rw [t_3_6]; rfl) 165 (by decide) ?_
    refine V_aload_n X dX9_status_165 rfl rfl ?_
    refine M_geti X dX9_status_166 fk_X9_205 (by decide) rfl ?_
    refine V_iret X dX9_status_169 ?_ ?_ ?_ ?_
    · exact rfl
    · dsimp only [rmm]; omega
    · dsimp only [rmm]; omega
    exact ⟨by simp only [q_stat, if_neg t_3_0, if_neg t_3_1, if_neg t_3_2, if_neg t_3_3, if_neg t_3_4, if_neg t_3_5, if_pos t_3_6], rfl⟩
  have n_3_0 : (x).toInt ≠ 0 := fun q => t_3_0 ((fa_eq _ _).mpr (q.trans rfl))
  have n_3_1 : (x).toInt ≠ 1 := fun q => t_3_1 ((fa_eq _ _).mpr (q.trans rfl))
  have n_3_2 : (x).toInt ≠ 2 := fun q => t_3_2 ((fa_eq _ _).mpr (q.trans rfl))
  have n_3_3 : (x).toInt ≠ 3 := fun q => t_3_3 ((fa_eq _ _).mpr (q.trans rfl))
  have n_3_4 : (x).toInt ≠ 4 := fun q => t_3_4 ((fa_eq _ _).mpr (q.trans rfl))
  have n_3_5 : (x).toInt ≠ 5 := fun q => t_3_5 ((fa_eq _ _).mpr (q.trans rfl))
  have n_3_6 : (x).toInt ≠ 6 := fun q => t_3_6 ((fa_eq _ _).mpr (q.trans rfl))
  refine V_tableOut X dX9_status_3 (by omega) 170 (by decide) ?_
  refine V_iload_n X dX9_status_170 rfl ?_
  refine V_i2l X dX9_status_171 ?_
  refine V_ldc2 X dX9_status_172 kc_X9_304 ?_
  refine V_ldc2 X dX9_status_175 kc_X9_306 ?_
  refine V_callS3 X dX9_status_178 mk_X9_171 st_X9_in (c_inI l (x := x) (lo := 11) (hi := 19) rfl rfl) (Nat.le_of_ble_eq_true rfl) ⟨Nat.le_of_ble_eq_true rfl, Nat.le_of_ble_eq_true rfl⟩ ?_ ?_
  · exact ⟨by dsimp only [rmm]; omega, by dsimp only [rmm]; omega⟩
  rintro r I1 ⟨rfl, rfl⟩
  refine V_if_eq X dX9_status_181 196 (by decide) (fun c_181 => ?_) (fun c_181 => ?_)
  · have h_181 := bz_f c_181
    refine V_bipush (v := (-9)) X dX9_status_196 (by decide) ?_
    refine V_iret X dX9_status_198 ?_ ?_ ?_ ?_
    · exact rfl
    · dsimp only [rmm]; omega
    · dsimp only [rmm]; omega
    exact ⟨by simp only [q_stat, if_neg t_3_0, if_neg t_3_1, if_neg t_3_2, if_neg t_3_3, if_neg t_3_4, if_neg t_3_5, if_neg t_3_6, if_neg h_181], rfl⟩
  have h_181 := bz_t c_181
  refine V_aload_n X dX9_status_184 rfl rfl ?_
  refine M_geta X dX9_status_185 fk_X9_166 (by decide) rfl ?_
  refine V_iload_n X dX9_status_188 rfl ?_
  refine V_bipush (v := 10) X dX9_status_189 (by decide) ?_
  refine V_isub X dX9_status_191 ?_
  refine M_iald X dX9_status_192 (by decide) rfl (by obtain ⟨k, hk1, hk2, ek⟩ := rng_of (a := 11) (b := 19) rfl rfl (by decide) (by decide) h_181; rw [ek, show (10 : Int32) = nI 10 from rfl, pk_sub (by omega)]; exact vp_in_nI2 (by omega) (by omega)) ?_
  refine V_goto X dX9_status_193 198 (by decide) ?_
  refine V_iret X dX9_status_198 ?_ ?_ ?_ ?_
  · exact rfl
  · dsimp only [rmm]; omega
  · dsimp only [rmm]; omega
  exact ⟨by simp only [q_stat, if_neg t_3_0, if_neg t_3_1, if_neg t_3_2, if_neg t_3_3, if_neg t_3_4, if_neg t_3_5, if_neg t_3_6, if_pos h_181], rfl⟩
abbrev bgP (S : St) (n way : Int32) (r : Nat) : Prop := S.1 5 r = n ∧ ¬ way = 1
abbrev enP (S : St) (n way : Int32) (r : Nat) : Prop := S.1 6 r = n ∧ ¬ way = 0
abbrev brP (S : St) (n way types : Int32) (r : Nat) : Prop := (types >>> (S.1 7 r &&& 31)) &&& 1 = 1 ∧ (bgP S n way r ∨ enP S n way r)
def brB (S : St) (n way types : Int32) (r : Nat) : Bool := decide (brP S n way types r)
theorem brB_iff {S : St} {n way types : Int32} {r : Nat} : brB S n way types r = true ↔ brP S n way types r := decide_eq_true_iff
def kthB (p : Nat → Bool) (k r : Nat) : Bool := p r && decide (cn p r = k)
theorem kthB_iff {p : Nat → Bool} {k r : Nat} : kthB p k r = true ↔ p r = true ∧ cn p r = k := by
  unfold kthB
  rw [Bool.and_eq_true, decide_eq_true_iff]
def brF (S : St) (n way types i : Int32) : Nat := frs (kthB (brB S n way types) (nn i)) (nn (S.1 4 0))
def op_browse (S : St) (s n way types i : Int32) : St × Int32 := let S1 := entS S s; if 0 ≤ lackS S s then (if isN S1 n then (if 0 ≤ way ∧ way ≤ 2 then (if ¬ i < 0 ∧ brF S1 n way types i < nn (S1.1 4 0) then (S1, if bgP S1 n way (brF S1 n way types i) then S1.1 6 (brF S1 n way types i) else S1.1 5 (brF S1 n way types i)) else rr S1 (-9)) else rr S1 (-7)) else rr S1 (-4)) else rr S1 (lackS S s)
theorem dec1 {a b : Nat} (h : b < a) : nI (a - b) + Int32.ofInt (-1) = nI (a - (b + 1)) := by
  rw [show a - b = (a - (b + 1)) + 1 by omega]
  exact pk_m1 _
set_option maxRecDepth 100000 in
set_option maxHeartbeats 4000000 in
theorem br_loop {l : Launch} {Z : Zt} {S T : St} {J : aH} {s n way ty i : Int32} {N k : Nat} {r6 : Int32} (X : Fx Z l (rmm 2 0 0 60) cX9_browse 11 RX9 (some .int) (fun r I' => r = some (.int (op_browse S s n way ty i).2) ∧ I' = ovl (op_browse S s n way ty i).1 J)) (hN : N ≤ 100) (e4 : T.1 4 0 = nI N) (ei : ¬ i < 0 → i = nI k) (hk : k < 2 ^ 31) (eo : op_browse S s n way ty i = if ¬ i < 0 ∧ brF T n way ty i < nn (T.1 4 0) then (T, if bgP T n way (brF T n way ty i) then T.1 6 (brF T n way ty i) else T.1 5 (brF T n way ty i)) else rr T (-9)) : ∀ (m x : Nat) (left : Int32) (o9 o10 : Option Value), N - x < m → x ≤ N → (¬ i < 0 → left = nI (k - cn (brB T n way ty) x) ∧ cn (brB T n way ty) x ≤ k ∧ ∀ j, j < x → ¬ kthB (brB T n way ty) k j = true) → (match o9 with | some (.long _) => False | some (.double _) => False | _ => True) → V Z 11 (ovl T J) [some (.ref mO), some (.int s), some (.int n), some (.int way), some (.int ty), some (.int i), some (.int r6), some (.int left), some (.int (nI x)), o9, o10] [] 0 0 69
  | 0, _, _, _, _, h, _, _, _ => absurd h (Nat.not_lt_zero _)
  | m + 1, x, left, o9, o10, hm, hx, hin, h9 => by
    have en : nn (T.1 4 0) = N := by rw [e4]; exact nnI (by omega)
    refine V_iload X dX9_browse_69 rfl ?_
    refine V_aload_n X dX9_browse_71 rfl rfl ?_
    refine M_getiE (nI N) X dX9_browse_72 fk_X9_189 (by decide) rfl (e4) ?_
    refine V_icmp_ge X dX9_browse_75 191 (by decide) (fun c_75 => ?_) (fun c_75 => ?_)
    · have hx2 : x = N := by
        rcases Nat.lt_or_ge x (N) with z | z
        · exact absurd c_75 (nI_ge z (by omega))
        · omega
      have hc : ¬ (¬ i < 0 ∧ brF T n way ty i < nn (T.1 4 0)) := fun q => by
        have h3 := (hin q.1).2.2
        have e : brF T n way ty i = nn (T.1 4 0) := by
          unfold brF
          rw [show nn i = k from by rw [ei q.1]; exact nnI hk]
          exact frs_no (fun j hj => h3 j (by omega))
        have := q.2
        omega
      rw [if_neg hc] at eo
      refine V_aload_n X dX9_browse_191 rfl rfl ?_
      refine V_bipush (v := (-9)) X dX9_browse_192 (by decide) ?_
      apply V_callV1 X dX9_browse_194 mk_X9_175 iv_X9_refuse (c_refuse9 l (x := -9) (by unfold vp_in; decide))
      · first | assumption | exact hu_s | exact (hu_n (by first | exact kd_nk (by decide) | exact kd_ni (by omega) | exact kd_ng (by omega) | assumption | exact Ne.symm (by assumption))).trans (by first | assumption | exact hu_s | exact (hu_n (by first | exact kd_nk (by decide) | exact kd_ni (by omega) | exact kd_ng (by omega) | assumption | exact Ne.symm (by assumption))).trans (by first | assumption | exact hu_s | exact (hu_n (by first | exact kd_nk (by decide) | exact kd_ni (by omega) | exact kd_ng (by omega) | assumption | exact Ne.symm (by assumption))).trans (by first | assumption | exact hu_s)))
      · exact rfl
      · exact Nat.le_of_ble_eq_true rfl
      · exact ⟨Nat.le_of_ble_eq_true rfl, Nat.le_of_ble_eq_true rfl⟩
      · exact ⟨by dsimp only [rmm]; omega, by dsimp only [rmm]; omega⟩
      rintro r I1 ⟨rfl, rfl⟩
      refine V_iret X dX9_browse_197 ?_ ?_ ?_ ?_
      · exact rfl
      · dsimp only [rmm]; omega
      · dsimp only [rmm]; omega
      rw [eo]; exact ⟨rfl, rfl⟩
    have hlt : x < N := by
      rcases Nat.lt_or_ge x (N) with z | z
      · exact z
      · exact absurd (nI_le z (by omega)) c_75
    refine V_iload X dX9_browse_78 rfl ?_
    refine V_if_lt X dX9_browse_80 191 (by decide) (fun c_80 => ?_) (fun c_80 => ?_)
    · have hc : ¬ (¬ i < 0 ∧ brF T n way ty i < nn (T.1 4 0)) := fun q => q.1 c_80
      rw [if_neg hc] at eo
      refine V_aload_n X dX9_browse_191 rfl rfl ?_
      refine V_bipush (v := (-9)) X dX9_browse_192 (by decide) ?_
      apply V_callV1 X dX9_browse_194 mk_X9_175 iv_X9_refuse (c_refuse9 l (x := -9) (by unfold vp_in; decide))
      · first | assumption | exact hu_s | exact (hu_n (by first | exact kd_nk (by decide) | exact kd_ni (by omega) | exact kd_ng (by omega) | assumption | exact Ne.symm (by assumption))).trans (by first | assumption | exact hu_s | exact (hu_n (by first | exact kd_nk (by decide) | exact kd_ni (by omega) | exact kd_ng (by omega) | assumption | exact Ne.symm (by assumption))).trans (by first | assumption | exact hu_s | exact (hu_n (by first | exact kd_nk (by decide) | exact kd_ni (by omega) | exact kd_ng (by omega) | assumption | exact Ne.symm (by assumption))).trans (by first | assumption | exact hu_s)))
      · exact rfl
      · exact Nat.le_of_ble_eq_true rfl
      · exact ⟨Nat.le_of_ble_eq_true rfl, Nat.le_of_ble_eq_true rfl⟩
      · exact ⟨by dsimp only [rmm]; omega, by dsimp only [rmm]; omega⟩
      rintro r I1 ⟨rfl, rfl⟩
      refine V_iret X dX9_browse_197 ?_ ?_ ?_ ?_
      · exact rfl
      · dsimp only [rmm]; omega
      · dsimp only [rmm]; omega
      rw [eo]; exact ⟨rfl, rfl⟩
    refine V_aload_n X dX9_browse_83 rfl rfl ?_
    refine M_geta X dX9_browse_84 fk_X9_17 (by decide) rfl ?_
    refine V_iload X dX9_browse_87 rfl ?_
    refine M_ialdN X dX9_browse_89 (by decide) rfl (by omega) (by decide) ?_
    refine V_iload_n X dX9_browse_90 rfl ?_
    refine V_icmp_ne X dX9_browse_91 103 (by decide) (fun c_91 => ?_) (fun c_91 => ?_)
    · have hnb : ¬ bgP T n way x := fun q => c_91 q.1
      refine V_iconst (v := 0) X dX9_browse_103 (by decide) ?_
      refine V_istore X dX9_browse_104 (by decide) rfl ?_
      refine V_aload_n X dX9_browse_106 rfl rfl ?_
      refine M_geta X dX9_browse_107 fk_X9_20 (by decide) rfl ?_
      refine V_iload X dX9_browse_110 rfl ?_
      refine M_ialdN X dX9_browse_112 (by decide) rfl (by omega) (by decide) ?_
      refine V_iload_n X dX9_browse_113 rfl ?_
      refine V_icmp_ne X dX9_browse_114 125 (by decide) (fun c_114 => ?_) (fun c_114 => ?_)
      · have hne : ¬ enP T n way x := fun q => c_114 q.1
        refine V_iconst (v := 0) X dX9_browse_125 (by decide) ?_
        refine V_istore X dX9_browse_126 (by decide) rfl ?_
        refine V_iload X dX9_browse_128 rfl ?_
        refine V_aload_n X dX9_browse_130 rfl rfl ?_
        refine M_geta X dX9_browse_131 fk_X9_23 (by decide) rfl ?_
        refine V_iload X dX9_browse_134 rfl ?_
        refine M_ialdN X dX9_browse_136 (by decide) rfl (by omega) (by decide) ?_
        refine V_ishr X dX9_browse_137 ?_
        refine V_iconst (v := 1) X dX9_browse_138 (by decide) ?_
        refine V_iand X dX9_browse_139 ?_
        refine V_iconst (v := 1) X dX9_browse_140 (by decide) ?_
        refine V_icmp_ne X dX9_browse_141 185 (by decide) (fun c_141 => ?_) (fun c_141 => ?_)
        · refine V_iinc X dX9_browse_185 rfl (by decide) rfl (nI (x + 1)) (nI_1 x) ?_
          refine V_goto X dX9_browse_188 69 (by decide) ?_
          have hi0 : ¬ i < 0 := c_80
          obtain ⟨hl1, hl2, hl3⟩ := hin hi0
          have hnp : ¬ brB T n way ty x = true := fun q => c_141 (brB_iff.mp q).1
          exact br_loop X hN e4 ei hk eo m (x + 1) left _ _ (by omega) (by omega) (fun _ => ⟨by rw [cn_f hnp]; exact hl1, by rw [cn_f hnp]; exact hl2, upto hl3 (fun q => hnp (kthB_iff.mp q).1)⟩) trivial
        refine V_iload X dX9_browse_144 rfl ?_
        refine V_if_ne X dX9_browse_146 154 (by decide) (fun c_146 => ?_) (fun c_146 => ?_)
        · exact absurd c_146 (by decide)
        refine V_iload X dX9_browse_149 rfl ?_
        refine V_if_eq X dX9_browse_151 185 (by decide) (fun c_151 => ?_) (fun c_151 => ?_)
        · refine V_iinc X dX9_browse_185 rfl (by decide) rfl (nI (x + 1)) (nI_1 x) ?_
          refine V_goto X dX9_browse_188 69 (by decide) ?_
          have hi0 : ¬ i < 0 := c_80
          obtain ⟨hl1, hl2, hl3⟩ := hin hi0
          have hnp : ¬ brB T n way ty x = true := fun q => (brB_iff.mp q).2.elim hnb hne
          exact br_loop X hN e4 ei hk eo m (x + 1) left _ _ (by omega) (by omega) (fun _ => ⟨by rw [cn_f hnp]; exact hl1, by rw [cn_f hnp]; exact hl2, upto hl3 (fun q => hnp (kthB_iff.mp q).1)⟩) trivial
        · exact absurd c_151 (by decide)
      refine V_iload_n X dX9_browse_117 rfl ?_
      refine V_if_eq X dX9_browse_118 125 (by decide) (fun c_118 => ?_) (fun c_118 => ?_)
      · have hne : ¬ enP T n way x := fun q => q.2 c_118
        refine V_iconst (v := 0) X dX9_browse_125 (by decide) ?_
        refine V_istore X dX9_browse_126 (by decide) rfl ?_
        refine V_iload X dX9_browse_128 rfl ?_
        refine V_aload_n X dX9_browse_130 rfl rfl ?_
        refine M_geta X dX9_browse_131 fk_X9_23 (by decide) rfl ?_
        refine V_iload X dX9_browse_134 rfl ?_
        refine M_ialdN X dX9_browse_136 (by decide) rfl (by omega) (by decide) ?_
        refine V_ishr X dX9_browse_137 ?_
        refine V_iconst (v := 1) X dX9_browse_138 (by decide) ?_
        refine V_iand X dX9_browse_139 ?_
        refine V_iconst (v := 1) X dX9_browse_140 (by decide) ?_
        refine V_icmp_ne X dX9_browse_141 185 (by decide) (fun c_141 => ?_) (fun c_141 => ?_)
        · refine V_iinc X dX9_browse_185 rfl (by decide) rfl (nI (x + 1)) (nI_1 x) ?_
          refine V_goto X dX9_browse_188 69 (by decide) ?_
          have hi0 : ¬ i < 0 := c_80
          obtain ⟨hl1, hl2, hl3⟩ := hin hi0
          have hnp : ¬ brB T n way ty x = true := fun q => c_141 (brB_iff.mp q).1
          exact br_loop X hN e4 ei hk eo m (x + 1) left _ _ (by omega) (by omega) (fun _ => ⟨by rw [cn_f hnp]; exact hl1, by rw [cn_f hnp]; exact hl2, upto hl3 (fun q => hnp (kthB_iff.mp q).1)⟩) trivial
        refine V_iload X dX9_browse_144 rfl ?_
        refine V_if_ne X dX9_browse_146 154 (by decide) (fun c_146 => ?_) (fun c_146 => ?_)
        · exact absurd c_146 (by decide)
        refine V_iload X dX9_browse_149 rfl ?_
        refine V_if_eq X dX9_browse_151 185 (by decide) (fun c_151 => ?_) (fun c_151 => ?_)
        · refine V_iinc X dX9_browse_185 rfl (by decide) rfl (nI (x + 1)) (nI_1 x) ?_
          refine V_goto X dX9_browse_188 69 (by decide) ?_
          have hi0 : ¬ i < 0 := c_80
          obtain ⟨hl1, hl2, hl3⟩ := hin hi0
          have hnp : ¬ brB T n way ty x = true := fun q => (brB_iff.mp q).2.elim hnb hne
          exact br_loop X hN e4 ei hk eo m (x + 1) left _ _ (by omega) (by omega) (fun _ => ⟨by rw [cn_f hnp]; exact hl1, by rw [cn_f hnp]; exact hl2, upto hl3 (fun q => hnp (kthB_iff.mp q).1)⟩) trivial
        · exact absurd c_151 (by decide)
      have hye : enP T n way x := ⟨c_114, c_118⟩
      refine V_iconst (v := 1) X dX9_browse_121 (by decide) ?_
      refine V_goto X dX9_browse_122 126 (by decide) ?_
      refine V_istore X dX9_browse_126 (by decide) rfl ?_
      refine V_iload X dX9_browse_128 rfl ?_
      refine V_aload_n X dX9_browse_130 rfl rfl ?_
      refine M_geta X dX9_browse_131 fk_X9_23 (by decide) rfl ?_
      refine V_iload X dX9_browse_134 rfl ?_
      refine M_ialdN X dX9_browse_136 (by decide) rfl (by omega) (by decide) ?_
      refine V_ishr X dX9_browse_137 ?_
      refine V_iconst (v := 1) X dX9_browse_138 (by decide) ?_
      refine V_iand X dX9_browse_139 ?_
      refine V_iconst (v := 1) X dX9_browse_140 (by decide) ?_
      refine V_icmp_ne X dX9_browse_141 185 (by decide) (fun c_141 => ?_) (fun c_141 => ?_)
      · refine V_iinc X dX9_browse_185 rfl (by decide) rfl (nI (x + 1)) (nI_1 x) ?_
        refine V_goto X dX9_browse_188 69 (by decide) ?_
        have hi0 : ¬ i < 0 := c_80
        obtain ⟨hl1, hl2, hl3⟩ := hin hi0
        have hnp : ¬ brB T n way ty x = true := fun q => c_141 (brB_iff.mp q).1
        exact br_loop X hN e4 ei hk eo m (x + 1) left _ _ (by omega) (by omega) (fun _ => ⟨by rw [cn_f hnp]; exact hl1, by rw [cn_f hnp]; exact hl2, upto hl3 (fun q => hnp (kthB_iff.mp q).1)⟩) trivial
      refine V_iload X dX9_browse_144 rfl ?_
      refine V_if_ne X dX9_browse_146 154 (by decide) (fun c_146 => ?_) (fun c_146 => ?_)
      · exact absurd c_146 (by decide)
      refine V_iload X dX9_browse_149 rfl ?_
      refine V_if_eq X dX9_browse_151 185 (by decide) (fun c_151 => ?_) (fun c_151 => ?_)
      · exact absurd c_151 (by decide)
      have hor : bgP T n way x ∨ enP T n way x := Or.inr hye
      refine V_iload X dX9_browse_154 rfl ?_
      refine V_if_ne X dX9_browse_156 182 (by decide) (fun c_156 => ?_) (fun c_156 => ?_)
      · refine V_iinc X dX9_browse_182 rfl (by decide) rfl _ rfl ?_
        refine V_iinc X dX9_browse_185 rfl (by decide) rfl (nI (x + 1)) (nI_1 x) ?_
        refine V_goto X dX9_browse_188 69 (by decide) ?_
        have hi0 : ¬ i < 0 := c_80
        obtain ⟨hl1, hl2, hl3⟩ := hin hi0
        have hp : brB T n way ty x = true := brB_iff.mpr ⟨c_141, hor⟩
        have hne0 : cn (brB T n way ty) x ≠ k := fun q => c_156 (by rw [hl1, q, Nat.sub_self]; rfl)
        exact br_loop X hN e4 ei hk eo m (x + 1) _ _ _ (by omega) (by omega) (fun _ => ⟨by rw [cn_t hp, hl1]; exact dec1 (by omega), by rw [cn_t hp]; omega, upto hl3 (fun q => hne0 (kthB_iff.mp q).2)⟩) trivial
      have hi0 : ¬ i < 0 := c_80
      obtain ⟨hl1, hl2, hl3⟩ := hin hi0
      have hck : cn (brB T n way ty) x = k := by
        rw [hl1] at c_156
        have := (nI_eq (b := 0) (by omega) (by decide)).mp c_156
        omega
      have e : brF T n way ty i = x := by
        unfold brF
        rw [en, show nn i = k from by rw [ei hi0]; exact nnI hk]
        exact frs_eq hlt (kthB_iff.mpr ⟨brB_iff.mpr ⟨c_141, hor⟩, hck⟩) hl3
      have hc : ¬ i < 0 ∧ brF T n way ty i < nn (T.1 4 0) := ⟨hi0, by rw [e, en]; exact hlt⟩
      rw [if_pos hc, e] at eo
      refine V_iload X dX9_browse_159 rfl ?_
      refine V_if_eq X dX9_browse_161 174 (by decide) (fun c_161 => ?_) (fun c_161 => ?_)
      · refine V_aload_n X dX9_browse_174 rfl rfl ?_
        refine M_geta X dX9_browse_175 fk_X9_17 (by decide) rfl ?_
        refine V_iload X dX9_browse_178 rfl ?_
        refine M_ialdN X dX9_browse_180 (by decide) rfl (by omega) (by decide) ?_
        refine V_iret X dX9_browse_181 ?_ ?_ ?_ ?_
        · exact rfl
        · dsimp only [rmm]; omega
        · dsimp only [rmm]; omega
        rw [eo]
        exact ⟨by rw [if_neg hnb], rfl⟩
      · exact absurd c_161 (by decide)
    refine V_iload_n X dX9_browse_94 rfl ?_
    refine V_iconst (v := 1) X dX9_browse_95 (by decide) ?_
    refine V_icmp_eq X dX9_browse_96 103 (by decide) (fun c_96 => ?_) (fun c_96 => ?_)
    · have hnb : ¬ bgP T n way x := fun q => q.2 c_96
      refine V_iconst (v := 0) X dX9_browse_103 (by decide) ?_
      refine V_istore X dX9_browse_104 (by decide) rfl ?_
      refine V_aload_n X dX9_browse_106 rfl rfl ?_
      refine M_geta X dX9_browse_107 fk_X9_20 (by decide) rfl ?_
      refine V_iload X dX9_browse_110 rfl ?_
      refine M_ialdN X dX9_browse_112 (by decide) rfl (by omega) (by decide) ?_
      refine V_iload_n X dX9_browse_113 rfl ?_
      refine V_icmp_ne X dX9_browse_114 125 (by decide) (fun c_114 => ?_) (fun c_114 => ?_)
      · have hne : ¬ enP T n way x := fun q => c_114 q.1
        refine V_iconst (v := 0) X dX9_browse_125 (by decide) ?_
        refine V_istore X dX9_browse_126 (by decide) rfl ?_
        refine V_iload X dX9_browse_128 rfl ?_
        refine V_aload_n X dX9_browse_130 rfl rfl ?_
        refine M_geta X dX9_browse_131 fk_X9_23 (by decide) rfl ?_
        refine V_iload X dX9_browse_134 rfl ?_
        refine M_ialdN X dX9_browse_136 (by decide) rfl (by omega) (by decide) ?_
        refine V_ishr X dX9_browse_137 ?_
        refine V_iconst (v := 1) X dX9_browse_138 (by decide) ?_
        refine V_iand X dX9_browse_139 ?_
        refine V_iconst (v := 1) X dX9_browse_140 (by decide) ?_
        refine V_icmp_ne X dX9_browse_141 185 (by decide) (fun c_141 => ?_) (fun c_141 => ?_)
        · refine V_iinc X dX9_browse_185 rfl (by decide) rfl (nI (x + 1)) (nI_1 x) ?_
          refine V_goto X dX9_browse_188 69 (by decide) ?_
          have hi0 : ¬ i < 0 := c_80
          obtain ⟨hl1, hl2, hl3⟩ := hin hi0
          have hnp : ¬ brB T n way ty x = true := fun q => c_141 (brB_iff.mp q).1
          exact br_loop X hN e4 ei hk eo m (x + 1) left _ _ (by omega) (by omega) (fun _ => ⟨by rw [cn_f hnp]; exact hl1, by rw [cn_f hnp]; exact hl2, upto hl3 (fun q => hnp (kthB_iff.mp q).1)⟩) trivial
        refine V_iload X dX9_browse_144 rfl ?_
        refine V_if_ne X dX9_browse_146 154 (by decide) (fun c_146 => ?_) (fun c_146 => ?_)
        · exact absurd c_146 (by decide)
        refine V_iload X dX9_browse_149 rfl ?_
        refine V_if_eq X dX9_browse_151 185 (by decide) (fun c_151 => ?_) (fun c_151 => ?_)
        · refine V_iinc X dX9_browse_185 rfl (by decide) rfl (nI (x + 1)) (nI_1 x) ?_
          refine V_goto X dX9_browse_188 69 (by decide) ?_
          have hi0 : ¬ i < 0 := c_80
          obtain ⟨hl1, hl2, hl3⟩ := hin hi0
          have hnp : ¬ brB T n way ty x = true := fun q => (brB_iff.mp q).2.elim hnb hne
          exact br_loop X hN e4 ei hk eo m (x + 1) left _ _ (by omega) (by omega) (fun _ => ⟨by rw [cn_f hnp]; exact hl1, by rw [cn_f hnp]; exact hl2, upto hl3 (fun q => hnp (kthB_iff.mp q).1)⟩) trivial
        · exact absurd c_151 (by decide)
      refine V_iload_n X dX9_browse_117 rfl ?_
      refine V_if_eq X dX9_browse_118 125 (by decide) (fun c_118 => ?_) (fun c_118 => ?_)
      · have hne : ¬ enP T n way x := fun q => q.2 c_118
        refine V_iconst (v := 0) X dX9_browse_125 (by decide) ?_
        refine V_istore X dX9_browse_126 (by decide) rfl ?_
        refine V_iload X dX9_browse_128 rfl ?_
        refine V_aload_n X dX9_browse_130 rfl rfl ?_
        refine M_geta X dX9_browse_131 fk_X9_23 (by decide) rfl ?_
        refine V_iload X dX9_browse_134 rfl ?_
        refine M_ialdN X dX9_browse_136 (by decide) rfl (by omega) (by decide) ?_
        refine V_ishr X dX9_browse_137 ?_
        refine V_iconst (v := 1) X dX9_browse_138 (by decide) ?_
        refine V_iand X dX9_browse_139 ?_
        refine V_iconst (v := 1) X dX9_browse_140 (by decide) ?_
        refine V_icmp_ne X dX9_browse_141 185 (by decide) (fun c_141 => ?_) (fun c_141 => ?_)
        · refine V_iinc X dX9_browse_185 rfl (by decide) rfl (nI (x + 1)) (nI_1 x) ?_
          refine V_goto X dX9_browse_188 69 (by decide) ?_
          have hi0 : ¬ i < 0 := c_80
          obtain ⟨hl1, hl2, hl3⟩ := hin hi0
          have hnp : ¬ brB T n way ty x = true := fun q => c_141 (brB_iff.mp q).1
          exact br_loop X hN e4 ei hk eo m (x + 1) left _ _ (by omega) (by omega) (fun _ => ⟨by rw [cn_f hnp]; exact hl1, by rw [cn_f hnp]; exact hl2, upto hl3 (fun q => hnp (kthB_iff.mp q).1)⟩) trivial
        refine V_iload X dX9_browse_144 rfl ?_
        refine V_if_ne X dX9_browse_146 154 (by decide) (fun c_146 => ?_) (fun c_146 => ?_)
        · exact absurd c_146 (by decide)
        refine V_iload X dX9_browse_149 rfl ?_
        refine V_if_eq X dX9_browse_151 185 (by decide) (fun c_151 => ?_) (fun c_151 => ?_)
        · refine V_iinc X dX9_browse_185 rfl (by decide) rfl (nI (x + 1)) (nI_1 x) ?_
          refine V_goto X dX9_browse_188 69 (by decide) ?_
          have hi0 : ¬ i < 0 := c_80
          obtain ⟨hl1, hl2, hl3⟩ := hin hi0
          have hnp : ¬ brB T n way ty x = true := fun q => (brB_iff.mp q).2.elim hnb hne
          exact br_loop X hN e4 ei hk eo m (x + 1) left _ _ (by omega) (by omega) (fun _ => ⟨by rw [cn_f hnp]; exact hl1, by rw [cn_f hnp]; exact hl2, upto hl3 (fun q => hnp (kthB_iff.mp q).1)⟩) trivial
        · exact absurd c_151 (by decide)
      have hye : enP T n way x := ⟨c_114, c_118⟩
      refine V_iconst (v := 1) X dX9_browse_121 (by decide) ?_
      refine V_goto X dX9_browse_122 126 (by decide) ?_
      refine V_istore X dX9_browse_126 (by decide) rfl ?_
      refine V_iload X dX9_browse_128 rfl ?_
      refine V_aload_n X dX9_browse_130 rfl rfl ?_
      refine M_geta X dX9_browse_131 fk_X9_23 (by decide) rfl ?_
      refine V_iload X dX9_browse_134 rfl ?_
      refine M_ialdN X dX9_browse_136 (by decide) rfl (by omega) (by decide) ?_
      refine V_ishr X dX9_browse_137 ?_
      refine V_iconst (v := 1) X dX9_browse_138 (by decide) ?_
      refine V_iand X dX9_browse_139 ?_
      refine V_iconst (v := 1) X dX9_browse_140 (by decide) ?_
      refine V_icmp_ne X dX9_browse_141 185 (by decide) (fun c_141 => ?_) (fun c_141 => ?_)
      · refine V_iinc X dX9_browse_185 rfl (by decide) rfl (nI (x + 1)) (nI_1 x) ?_
        refine V_goto X dX9_browse_188 69 (by decide) ?_
        have hi0 : ¬ i < 0 := c_80
        obtain ⟨hl1, hl2, hl3⟩ := hin hi0
        have hnp : ¬ brB T n way ty x = true := fun q => c_141 (brB_iff.mp q).1
        exact br_loop X hN e4 ei hk eo m (x + 1) left _ _ (by omega) (by omega) (fun _ => ⟨by rw [cn_f hnp]; exact hl1, by rw [cn_f hnp]; exact hl2, upto hl3 (fun q => hnp (kthB_iff.mp q).1)⟩) trivial
      refine V_iload X dX9_browse_144 rfl ?_
      refine V_if_ne X dX9_browse_146 154 (by decide) (fun c_146 => ?_) (fun c_146 => ?_)
      · exact absurd c_146 (by decide)
      refine V_iload X dX9_browse_149 rfl ?_
      refine V_if_eq X dX9_browse_151 185 (by decide) (fun c_151 => ?_) (fun c_151 => ?_)
      · exact absurd c_151 (by decide)
      have hor : bgP T n way x ∨ enP T n way x := Or.inr hye
      refine V_iload X dX9_browse_154 rfl ?_
      refine V_if_ne X dX9_browse_156 182 (by decide) (fun c_156 => ?_) (fun c_156 => ?_)
      · refine V_iinc X dX9_browse_182 rfl (by decide) rfl _ rfl ?_
        refine V_iinc X dX9_browse_185 rfl (by decide) rfl (nI (x + 1)) (nI_1 x) ?_
        refine V_goto X dX9_browse_188 69 (by decide) ?_
        have hi0 : ¬ i < 0 := c_80
        obtain ⟨hl1, hl2, hl3⟩ := hin hi0
        have hp : brB T n way ty x = true := brB_iff.mpr ⟨c_141, hor⟩
        have hne0 : cn (brB T n way ty) x ≠ k := fun q => c_156 (by rw [hl1, q, Nat.sub_self]; rfl)
        exact br_loop X hN e4 ei hk eo m (x + 1) _ _ _ (by omega) (by omega) (fun _ => ⟨by rw [cn_t hp, hl1]; exact dec1 (by omega), by rw [cn_t hp]; omega, upto hl3 (fun q => hne0 (kthB_iff.mp q).2)⟩) trivial
      have hi0 : ¬ i < 0 := c_80
      obtain ⟨hl1, hl2, hl3⟩ := hin hi0
      have hck : cn (brB T n way ty) x = k := by
        rw [hl1] at c_156
        have := (nI_eq (b := 0) (by omega) (by decide)).mp c_156
        omega
      have e : brF T n way ty i = x := by
        unfold brF
        rw [en, show nn i = k from by rw [ei hi0]; exact nnI hk]
        exact frs_eq hlt (kthB_iff.mpr ⟨brB_iff.mpr ⟨c_141, hor⟩, hck⟩) hl3
      have hc : ¬ i < 0 ∧ brF T n way ty i < nn (T.1 4 0) := ⟨hi0, by rw [e, en]; exact hlt⟩
      rw [if_pos hc, e] at eo
      refine V_iload X dX9_browse_159 rfl ?_
      refine V_if_eq X dX9_browse_161 174 (by decide) (fun c_161 => ?_) (fun c_161 => ?_)
      · refine V_aload_n X dX9_browse_174 rfl rfl ?_
        refine M_geta X dX9_browse_175 fk_X9_17 (by decide) rfl ?_
        refine V_iload X dX9_browse_178 rfl ?_
        refine M_ialdN X dX9_browse_180 (by decide) rfl (by omega) (by decide) ?_
        refine V_iret X dX9_browse_181 ?_ ?_ ?_ ?_
        · exact rfl
        · dsimp only [rmm]; omega
        · dsimp only [rmm]; omega
        rw [eo]
        exact ⟨by rw [if_neg hnb], rfl⟩
      · exact absurd c_161 (by decide)
    have hyb : bgP T n way x := ⟨c_91, c_96⟩
    refine V_iconst (v := 1) X dX9_browse_99 (by decide) ?_
    refine V_goto X dX9_browse_100 104 (by decide) ?_
    refine V_istore X dX9_browse_104 (by decide) rfl ?_
    refine V_aload_n X dX9_browse_106 rfl rfl ?_
    refine M_geta X dX9_browse_107 fk_X9_20 (by decide) rfl ?_
    refine V_iload X dX9_browse_110 rfl ?_
    refine M_ialdN X dX9_browse_112 (by decide) rfl (by omega) (by decide) ?_
    refine V_iload_n X dX9_browse_113 rfl ?_
    refine V_icmp_ne X dX9_browse_114 125 (by decide) (fun c_114 => ?_) (fun c_114 => ?_)
    · have hne : ¬ enP T n way x := fun q => c_114 q.1
      refine V_iconst (v := 0) X dX9_browse_125 (by decide) ?_
      refine V_istore X dX9_browse_126 (by decide) rfl ?_
      refine V_iload X dX9_browse_128 rfl ?_
      refine V_aload_n X dX9_browse_130 rfl rfl ?_
      refine M_geta X dX9_browse_131 fk_X9_23 (by decide) rfl ?_
      refine V_iload X dX9_browse_134 rfl ?_
      refine M_ialdN X dX9_browse_136 (by decide) rfl (by omega) (by decide) ?_
      refine V_ishr X dX9_browse_137 ?_
      refine V_iconst (v := 1) X dX9_browse_138 (by decide) ?_
      refine V_iand X dX9_browse_139 ?_
      refine V_iconst (v := 1) X dX9_browse_140 (by decide) ?_
      refine V_icmp_ne X dX9_browse_141 185 (by decide) (fun c_141 => ?_) (fun c_141 => ?_)
      · refine V_iinc X dX9_browse_185 rfl (by decide) rfl (nI (x + 1)) (nI_1 x) ?_
        refine V_goto X dX9_browse_188 69 (by decide) ?_
        have hi0 : ¬ i < 0 := c_80
        obtain ⟨hl1, hl2, hl3⟩ := hin hi0
        have hnp : ¬ brB T n way ty x = true := fun q => c_141 (brB_iff.mp q).1
        exact br_loop X hN e4 ei hk eo m (x + 1) left _ _ (by omega) (by omega) (fun _ => ⟨by rw [cn_f hnp]; exact hl1, by rw [cn_f hnp]; exact hl2, upto hl3 (fun q => hnp (kthB_iff.mp q).1)⟩) trivial
      refine V_iload X dX9_browse_144 rfl ?_
      refine V_if_ne X dX9_browse_146 154 (by decide) (fun c_146 => ?_) (fun c_146 => ?_)
      · have hor : bgP T n way x ∨ enP T n way x := Or.inl hyb
        refine V_iload X dX9_browse_154 rfl ?_
        refine V_if_ne X dX9_browse_156 182 (by decide) (fun c_156 => ?_) (fun c_156 => ?_)
        · refine V_iinc X dX9_browse_182 rfl (by decide) rfl _ rfl ?_
          refine V_iinc X dX9_browse_185 rfl (by decide) rfl (nI (x + 1)) (nI_1 x) ?_
          refine V_goto X dX9_browse_188 69 (by decide) ?_
          have hi0 : ¬ i < 0 := c_80
          obtain ⟨hl1, hl2, hl3⟩ := hin hi0
          have hp : brB T n way ty x = true := brB_iff.mpr ⟨c_141, hor⟩
          have hne0 : cn (brB T n way ty) x ≠ k := fun q => c_156 (by rw [hl1, q, Nat.sub_self]; rfl)
          exact br_loop X hN e4 ei hk eo m (x + 1) _ _ _ (by omega) (by omega) (fun _ => ⟨by rw [cn_t hp, hl1]; exact dec1 (by omega), by rw [cn_t hp]; omega, upto hl3 (fun q => hne0 (kthB_iff.mp q).2)⟩) trivial
        have hi0 : ¬ i < 0 := c_80
        obtain ⟨hl1, hl2, hl3⟩ := hin hi0
        have hck : cn (brB T n way ty) x = k := by
          rw [hl1] at c_156
          have := (nI_eq (b := 0) (by omega) (by decide)).mp c_156
          omega
        have e : brF T n way ty i = x := by
          unfold brF
          rw [en, show nn i = k from by rw [ei hi0]; exact nnI hk]
          exact frs_eq hlt (kthB_iff.mpr ⟨brB_iff.mpr ⟨c_141, hor⟩, hck⟩) hl3
        have hc : ¬ i < 0 ∧ brF T n way ty i < nn (T.1 4 0) := ⟨hi0, by rw [e, en]; exact hlt⟩
        rw [if_pos hc, e] at eo
        refine V_iload X dX9_browse_159 rfl ?_
        refine V_if_eq X dX9_browse_161 174 (by decide) (fun c_161 => ?_) (fun c_161 => ?_)
        · exact absurd c_161 (by decide)
        refine V_aload_n X dX9_browse_164 rfl rfl ?_
        refine M_geta X dX9_browse_165 fk_X9_20 (by decide) rfl ?_
        refine V_iload X dX9_browse_168 rfl ?_
        refine M_ialdN X dX9_browse_170 (by decide) rfl (by omega) (by decide) ?_
        refine V_goto X dX9_browse_171 181 (by decide) ?_
        refine V_iret X dX9_browse_181 ?_ ?_ ?_ ?_
        · exact rfl
        · dsimp only [rmm]; omega
        · dsimp only [rmm]; omega
        rw [eo]
        exact ⟨by rw [if_pos hyb], rfl⟩
      · exact absurd c_146 (by decide)
    refine V_iload_n X dX9_browse_117 rfl ?_
    refine V_if_eq X dX9_browse_118 125 (by decide) (fun c_118 => ?_) (fun c_118 => ?_)
    · have hne : ¬ enP T n way x := fun q => q.2 c_118
      refine V_iconst (v := 0) X dX9_browse_125 (by decide) ?_
      refine V_istore X dX9_browse_126 (by decide) rfl ?_
      refine V_iload X dX9_browse_128 rfl ?_
      refine V_aload_n X dX9_browse_130 rfl rfl ?_
      refine M_geta X dX9_browse_131 fk_X9_23 (by decide) rfl ?_
      refine V_iload X dX9_browse_134 rfl ?_
      refine M_ialdN X dX9_browse_136 (by decide) rfl (by omega) (by decide) ?_
      refine V_ishr X dX9_browse_137 ?_
      refine V_iconst (v := 1) X dX9_browse_138 (by decide) ?_
      refine V_iand X dX9_browse_139 ?_
      refine V_iconst (v := 1) X dX9_browse_140 (by decide) ?_
      refine V_icmp_ne X dX9_browse_141 185 (by decide) (fun c_141 => ?_) (fun c_141 => ?_)
      · refine V_iinc X dX9_browse_185 rfl (by decide) rfl (nI (x + 1)) (nI_1 x) ?_
        refine V_goto X dX9_browse_188 69 (by decide) ?_
        have hi0 : ¬ i < 0 := c_80
        obtain ⟨hl1, hl2, hl3⟩ := hin hi0
        have hnp : ¬ brB T n way ty x = true := fun q => c_141 (brB_iff.mp q).1
        exact br_loop X hN e4 ei hk eo m (x + 1) left _ _ (by omega) (by omega) (fun _ => ⟨by rw [cn_f hnp]; exact hl1, by rw [cn_f hnp]; exact hl2, upto hl3 (fun q => hnp (kthB_iff.mp q).1)⟩) trivial
      refine V_iload X dX9_browse_144 rfl ?_
      refine V_if_ne X dX9_browse_146 154 (by decide) (fun c_146 => ?_) (fun c_146 => ?_)
      · have hor : bgP T n way x ∨ enP T n way x := Or.inl hyb
        refine V_iload X dX9_browse_154 rfl ?_
        refine V_if_ne X dX9_browse_156 182 (by decide) (fun c_156 => ?_) (fun c_156 => ?_)
        · refine V_iinc X dX9_browse_182 rfl (by decide) rfl _ rfl ?_
          refine V_iinc X dX9_browse_185 rfl (by decide) rfl (nI (x + 1)) (nI_1 x) ?_
          refine V_goto X dX9_browse_188 69 (by decide) ?_
          have hi0 : ¬ i < 0 := c_80
          obtain ⟨hl1, hl2, hl3⟩ := hin hi0
          have hp : brB T n way ty x = true := brB_iff.mpr ⟨c_141, hor⟩
          have hne0 : cn (brB T n way ty) x ≠ k := fun q => c_156 (by rw [hl1, q, Nat.sub_self]; rfl)
          exact br_loop X hN e4 ei hk eo m (x + 1) _ _ _ (by omega) (by omega) (fun _ => ⟨by rw [cn_t hp, hl1]; exact dec1 (by omega), by rw [cn_t hp]; omega, upto hl3 (fun q => hne0 (kthB_iff.mp q).2)⟩) trivial
        have hi0 : ¬ i < 0 := c_80
        obtain ⟨hl1, hl2, hl3⟩ := hin hi0
        have hck : cn (brB T n way ty) x = k := by
          rw [hl1] at c_156
          have := (nI_eq (b := 0) (by omega) (by decide)).mp c_156
          omega
        have e : brF T n way ty i = x := by
          unfold brF
          rw [en, show nn i = k from by rw [ei hi0]; exact nnI hk]
          exact frs_eq hlt (kthB_iff.mpr ⟨brB_iff.mpr ⟨c_141, hor⟩, hck⟩) hl3
        have hc : ¬ i < 0 ∧ brF T n way ty i < nn (T.1 4 0) := ⟨hi0, by rw [e, en]; exact hlt⟩
        rw [if_pos hc, e] at eo
        refine V_iload X dX9_browse_159 rfl ?_
        refine V_if_eq X dX9_browse_161 174 (by decide) (fun c_161 => ?_) (fun c_161 => ?_)
        · exact absurd c_161 (by decide)
        refine V_aload_n X dX9_browse_164 rfl rfl ?_
        refine M_geta X dX9_browse_165 fk_X9_20 (by decide) rfl ?_
        refine V_iload X dX9_browse_168 rfl ?_
        refine M_ialdN X dX9_browse_170 (by decide) rfl (by omega) (by decide) ?_
        refine V_goto X dX9_browse_171 181 (by decide) ?_
        refine V_iret X dX9_browse_181 ?_ ?_ ?_ ?_
        · exact rfl
        · dsimp only [rmm]; omega
        · dsimp only [rmm]; omega
        rw [eo]
        exact ⟨by rw [if_pos hyb], rfl⟩
      · exact absurd c_146 (by decide)
    have hye : enP T n way x := ⟨c_114, c_118⟩
    refine V_iconst (v := 1) X dX9_browse_121 (by decide) ?_
    refine V_goto X dX9_browse_122 126 (by decide) ?_
    refine V_istore X dX9_browse_126 (by decide) rfl ?_
    refine V_iload X dX9_browse_128 rfl ?_
    refine V_aload_n X dX9_browse_130 rfl rfl ?_
    refine M_geta X dX9_browse_131 fk_X9_23 (by decide) rfl ?_
    refine V_iload X dX9_browse_134 rfl ?_
    refine M_ialdN X dX9_browse_136 (by decide) rfl (by omega) (by decide) ?_
    refine V_ishr X dX9_browse_137 ?_
    refine V_iconst (v := 1) X dX9_browse_138 (by decide) ?_
    refine V_iand X dX9_browse_139 ?_
    refine V_iconst (v := 1) X dX9_browse_140 (by decide) ?_
    refine V_icmp_ne X dX9_browse_141 185 (by decide) (fun c_141 => ?_) (fun c_141 => ?_)
    · refine V_iinc X dX9_browse_185 rfl (by decide) rfl (nI (x + 1)) (nI_1 x) ?_
      refine V_goto X dX9_browse_188 69 (by decide) ?_
      have hi0 : ¬ i < 0 := c_80
      obtain ⟨hl1, hl2, hl3⟩ := hin hi0
      have hnp : ¬ brB T n way ty x = true := fun q => c_141 (brB_iff.mp q).1
      exact br_loop X hN e4 ei hk eo m (x + 1) left _ _ (by omega) (by omega) (fun _ => ⟨by rw [cn_f hnp]; exact hl1, by rw [cn_f hnp]; exact hl2, upto hl3 (fun q => hnp (kthB_iff.mp q).1)⟩) trivial
    refine V_iload X dX9_browse_144 rfl ?_
    refine V_if_ne X dX9_browse_146 154 (by decide) (fun c_146 => ?_) (fun c_146 => ?_)
    · have hor : bgP T n way x ∨ enP T n way x := Or.inl hyb
      refine V_iload X dX9_browse_154 rfl ?_
      refine V_if_ne X dX9_browse_156 182 (by decide) (fun c_156 => ?_) (fun c_156 => ?_)
      · refine V_iinc X dX9_browse_182 rfl (by decide) rfl _ rfl ?_
        refine V_iinc X dX9_browse_185 rfl (by decide) rfl (nI (x + 1)) (nI_1 x) ?_
        refine V_goto X dX9_browse_188 69 (by decide) ?_
        have hi0 : ¬ i < 0 := c_80
        obtain ⟨hl1, hl2, hl3⟩ := hin hi0
        have hp : brB T n way ty x = true := brB_iff.mpr ⟨c_141, hor⟩
        have hne0 : cn (brB T n way ty) x ≠ k := fun q => c_156 (by rw [hl1, q, Nat.sub_self]; rfl)
        exact br_loop X hN e4 ei hk eo m (x + 1) _ _ _ (by omega) (by omega) (fun _ => ⟨by rw [cn_t hp, hl1]; exact dec1 (by omega), by rw [cn_t hp]; omega, upto hl3 (fun q => hne0 (kthB_iff.mp q).2)⟩) trivial
      have hi0 : ¬ i < 0 := c_80
      obtain ⟨hl1, hl2, hl3⟩ := hin hi0
      have hck : cn (brB T n way ty) x = k := by
        rw [hl1] at c_156
        have := (nI_eq (b := 0) (by omega) (by decide)).mp c_156
        omega
      have e : brF T n way ty i = x := by
        unfold brF
        rw [en, show nn i = k from by rw [ei hi0]; exact nnI hk]
        exact frs_eq hlt (kthB_iff.mpr ⟨brB_iff.mpr ⟨c_141, hor⟩, hck⟩) hl3
      have hc : ¬ i < 0 ∧ brF T n way ty i < nn (T.1 4 0) := ⟨hi0, by rw [e, en]; exact hlt⟩
      rw [if_pos hc, e] at eo
      refine V_iload X dX9_browse_159 rfl ?_
      refine V_if_eq X dX9_browse_161 174 (by decide) (fun c_161 => ?_) (fun c_161 => ?_)
      · exact absurd c_161 (by decide)
      refine V_aload_n X dX9_browse_164 rfl rfl ?_
      refine M_geta X dX9_browse_165 fk_X9_20 (by decide) rfl ?_
      refine V_iload X dX9_browse_168 rfl ?_
      refine M_ialdN X dX9_browse_170 (by decide) rfl (by omega) (by decide) ?_
      refine V_goto X dX9_browse_171 181 (by decide) ?_
      refine V_iret X dX9_browse_181 ?_ ?_ ?_ ?_
      · exact rfl
      · dsimp only [rmm]; omega
      · dsimp only [rmm]; omega
      rw [eo]
      exact ⟨by rw [if_pos hyb], rfl⟩
    · exact absurd c_146 (by decide)
set_option maxRecDepth 100000 in
set_option maxHeartbeats 4000000 in
theorem m_browse (l : Launch) {S : St} {J : aH} {s n way ty i : Int32} (h1 : ct S 1 40) (h4 : ct S 4 100) (h8 : ct S 8 12) : AM l yX9_browse cX9_browse 11 (some .int) (rmm 2 0 0 60) [.ref mO, .int s, .int n, .int way, .int ty, .int i] (ovl S J) (fun r I' => r = some (.int (op_browse S s n way ty i).2) ∧ I' = ovl (op_browse S s n way ty i).1 J) := by
  refine AM_of RX9 (by decide) rfl [some (.ref mO), some (.int s), some (.int n), some (.int way), some (.int ty), some (.int i), none, none, none, none, none] rfl (Nat.le_of_ble_eq_true rfl) (fun Z X hNm => ?_)
  refine V_aload_n X dX9_browse_0 rfl rfl ?_
  refine V_iload_n X dX9_browse_1 rfl ?_
  apply V_callV1 X dX9_browse_2 mk_X9_260 iv_X9_lacks (c_lacks l h8)
  · first | assumption | exact hu_s | exact (hu_n (by first | exact kd_nk (by decide) | exact kd_ni (by omega) | exact kd_ng (by omega) | assumption | exact Ne.symm (by assumption))).trans (by first | assumption | exact hu_s | exact (hu_n (by first | exact kd_nk (by decide) | exact kd_ni (by omega) | exact kd_ng (by omega) | assumption | exact Ne.symm (by assumption))).trans (by first | assumption | exact hu_s | exact (hu_n (by first | exact kd_nk (by decide) | exact kd_ni (by omega) | exact kd_ng (by omega) | assumption | exact Ne.symm (by assumption))).trans (by first | assumption | exact hu_s)))
  · exact rfl
  · exact Nat.le_of_ble_eq_true rfl
  · exact ⟨Nat.le_of_ble_eq_true rfl, Nat.le_of_ble_eq_true rfl⟩
  · exact ⟨by dsimp only [rmm]; omega, by dsimp only [rmm]; omega⟩
  rintro r I1 ⟨rfl, rfl⟩
  refine V_istore X dX9_browse_5 (by decide) rfl ?_
  refine V_iload X dX9_browse_7 rfl ?_
  refine V_if_ge X dX9_browse_9 17 (by decide) (fun c_9 => ?_) (fun c_9 => ?_)
  · refine V_aload_n X dX9_browse_17 rfl rfl ?_
    refine V_iload_n X dX9_browse_18 rfl ?_
    apply V_callV1 X dX9_browse_19 mk_X9_183 iv_X9_isNode (c_isNode9 l (ct_ent h1 (by decide)))
    · first | assumption | exact hu_s | exact (hu_n (by first | exact kd_nk (by decide) | exact kd_ni (by omega) | exact kd_ng (by omega) | assumption | exact Ne.symm (by assumption))).trans (by first | assumption | exact hu_s | exact (hu_n (by first | exact kd_nk (by decide) | exact kd_ni (by omega) | exact kd_ng (by omega) | assumption | exact Ne.symm (by assumption))).trans (by first | assumption | exact hu_s | exact (hu_n (by first | exact kd_nk (by decide) | exact kd_ni (by omega) | exact kd_ng (by omega) | assumption | exact Ne.symm (by assumption))).trans (by first | assumption | exact hu_s)))
    · exact rfl
    · exact Nat.le_of_ble_eq_true rfl
    · exact ⟨Nat.le_of_ble_eq_true rfl, Nat.le_of_ble_eq_true rfl⟩
    · exact ⟨by dsimp only [rmm]; omega, by dsimp only [rmm]; omega⟩
    rintro r I1 ⟨rfl, rfl⟩
    refine V_if_ne X dX9_browse_22 30 (by decide) (fun c_22 => ?_) (fun c_22 => ?_)
    · have h_22 := bz_t c_22
      refine V_iload_n X dX9_browse_30 rfl ?_
      refine V_i2l X dX9_browse_31 ?_
      refine V_lconst (v := 0) X dX9_browse_32 (by decide) ?_
      refine V_ldc2 X dX9_browse_33 kc_X9_169 ?_
      refine V_callS3 X dX9_browse_36 mk_X9_171 st_X9_in (c_inI l (x := way) (lo := 0) (hi := 2) rfl rfl) (Nat.le_of_ble_eq_true rfl) ⟨Nat.le_of_ble_eq_true rfl, Nat.le_of_ble_eq_true rfl⟩ ?_ ?_
      · exact ⟨by dsimp only [rmm]; omega, by dsimp only [rmm]; omega⟩
      rintro r I1 ⟨rfl, rfl⟩
      refine V_if_ne X dX9_browse_39 47 (by decide) (fun c_39 => ?_) (fun c_39 => ?_)
      · have h_39 := bz_t c_39
        refine V_iconst (v := 0) X dX9_browse_47 (by decide) ?_
        refine V_istore X dX9_browse_48 (by decide) rfl ?_
        refine V_iload X dX9_browse_50 rfl ?_
        refine V_if_ge X dX9_browse_52 62 (by decide) (fun c_52 => ?_) (fun c_52 => ?_)
        · refine V_iload X dX9_browse_62 rfl ?_
          refine V_istore X dX9_browse_64 (by decide) rfl ?_
          refine V_iconst (v := 0) X dX9_browse_66 (by decide) ?_
          refine V_istore X dX9_browse_67 (by decide) rfl ?_
          obtain ⟨N, hN, e4⟩ := ct_ent (s := s) h4 (by decide)
          have ei : ¬ i < 0 → i = nI (nn i) := fun h => by
            obtain ⟨k, hk, ek⟩ := nI_of h
            rw [ek, nnI hk]
          have hk : nn i < 2 ^ 31 := by
            rcases Decidable.em (i < 0) with q | q
            · have : nn i = 0 := by
                show i.toInt.toNat = 0
                rw [fa_lt, i0] at q
                omega
              omega
            · obtain ⟨k, hk, ek⟩ := nI_of q
              rw [ek, nnI hk]
              exact hk
          exact br_loop X hN e4 ei hk (by rw [op_browse, if_pos c_9, if_pos h_22, if_pos h_39]) (N + 1) 0 i _ _ (by omega) (Nat.zero_le _) (fun h => ⟨ei h, Nat.zero_le _, fun j hj => absurd hj (Nat.not_lt_zero _)⟩) trivial
        · exact absurd c_52 (by decide)
      have h_39 := bz_f c_39
      refine V_bipush (v := (-7)) X dX9_browse_42 (by decide) ?_
      refine V_goto X dX9_browse_44 48 (by decide) ?_
      refine V_istore X dX9_browse_48 (by decide) rfl ?_
      refine V_iload X dX9_browse_50 rfl ?_
      refine V_if_ge X dX9_browse_52 62 (by decide) (fun c_52 => ?_) (fun c_52 => ?_)
      · exact absurd c_52 (by decide)
      refine V_aload_n X dX9_browse_55 rfl rfl ?_
      refine V_iload X dX9_browse_56 rfl ?_
      apply V_callV1 X dX9_browse_58 mk_X9_175 iv_X9_refuse (c_refuse9 l (x := -7) (by unfold vp_in; decide))
      · first | assumption | exact hu_s | exact (hu_n (by first | exact kd_nk (by decide) | exact kd_ni (by omega) | exact kd_ng (by omega) | assumption | exact Ne.symm (by assumption))).trans (by first | assumption | exact hu_s | exact (hu_n (by first | exact kd_nk (by decide) | exact kd_ni (by omega) | exact kd_ng (by omega) | assumption | exact Ne.symm (by assumption))).trans (by first | assumption | exact hu_s | exact (hu_n (by first | exact kd_nk (by decide) | exact kd_ni (by omega) | exact kd_ng (by omega) | assumption | exact Ne.symm (by assumption))).trans (by first | assumption | exact hu_s)))
      · exact rfl
      · exact Nat.le_of_ble_eq_true rfl
      · exact ⟨Nat.le_of_ble_eq_true rfl, Nat.le_of_ble_eq_true rfl⟩
      · exact ⟨by dsimp only [rmm]; omega, by dsimp only [rmm]; omega⟩
      rintro r I1 ⟨rfl, rfl⟩
      refine V_iret X dX9_browse_61 ?_ ?_ ?_ ?_
      · exact rfl
      · dsimp only [rmm]; omega
      · dsimp only [rmm]; omega
      refine ⟨?_, ?_⟩ <;> rw [op_browse, if_pos c_9, if_pos h_22, if_neg h_39]
    have h_22 := bz_f c_22
    refine V_bipush (v := (-4)) X dX9_browse_25 (by decide) ?_
    refine V_goto X dX9_browse_27 48 (by decide) ?_
    refine V_istore X dX9_browse_48 (by decide) rfl ?_
    refine V_iload X dX9_browse_50 rfl ?_
    refine V_if_ge X dX9_browse_52 62 (by decide) (fun c_52 => ?_) (fun c_52 => ?_)
    · exact absurd c_52 (by decide)
    refine V_aload_n X dX9_browse_55 rfl rfl ?_
    refine V_iload X dX9_browse_56 rfl ?_
    apply V_callV1 X dX9_browse_58 mk_X9_175 iv_X9_refuse (c_refuse9 l (x := -4) (by unfold vp_in; decide))
    · first | assumption | exact hu_s | exact (hu_n (by first | exact kd_nk (by decide) | exact kd_ni (by omega) | exact kd_ng (by omega) | assumption | exact Ne.symm (by assumption))).trans (by first | assumption | exact hu_s | exact (hu_n (by first | exact kd_nk (by decide) | exact kd_ni (by omega) | exact kd_ng (by omega) | assumption | exact Ne.symm (by assumption))).trans (by first | assumption | exact hu_s | exact (hu_n (by first | exact kd_nk (by decide) | exact kd_ni (by omega) | exact kd_ng (by omega) | assumption | exact Ne.symm (by assumption))).trans (by first | assumption | exact hu_s)))
    · exact rfl
    · exact Nat.le_of_ble_eq_true rfl
    · exact ⟨Nat.le_of_ble_eq_true rfl, Nat.le_of_ble_eq_true rfl⟩
    · exact ⟨by dsimp only [rmm]; omega, by dsimp only [rmm]; omega⟩
    rintro r I1 ⟨rfl, rfl⟩
    refine V_iret X dX9_browse_61 ?_ ?_ ?_ ?_
    · exact rfl
    · dsimp only [rmm]; omega
    · dsimp only [rmm]; omega
    refine ⟨?_, ?_⟩ <;> rw [op_browse, if_pos c_9, if_neg h_22]
  refine V_iload X dX9_browse_12 rfl ?_
  refine V_goto X dX9_browse_14 48 (by decide) ?_
  refine V_istore X dX9_browse_48 (by decide) rfl ?_
  refine V_iload X dX9_browse_50 rfl ?_
  refine V_if_ge X dX9_browse_52 62 (by decide) (fun c_52 => ?_) (fun c_52 => ?_)
  · exact absurd c_52 c_9
  refine V_aload_n X dX9_browse_55 rfl rfl ?_
  refine V_iload X dX9_browse_56 rfl ?_
  apply V_callV1 X dX9_browse_58 mk_X9_175 iv_X9_refuse (c_refuse9 l (x := lackS S s) (lackS_in c_9))
  · first | assumption | exact hu_s | exact (hu_n (by first | exact kd_nk (by decide) | exact kd_ni (by omega) | exact kd_ng (by omega) | assumption | exact Ne.symm (by assumption))).trans (by first | assumption | exact hu_s | exact (hu_n (by first | exact kd_nk (by decide) | exact kd_ni (by omega) | exact kd_ng (by omega) | assumption | exact Ne.symm (by assumption))).trans (by first | assumption | exact hu_s | exact (hu_n (by first | exact kd_nk (by decide) | exact kd_ni (by omega) | exact kd_ng (by omega) | assumption | exact Ne.symm (by assumption))).trans (by first | assumption | exact hu_s)))
  · exact rfl
  · exact Nat.le_of_ble_eq_true rfl
  · exact ⟨Nat.le_of_ble_eq_true rfl, Nat.le_of_ble_eq_true rfl⟩
  · exact ⟨by dsimp only [rmm]; omega, by dsimp only [rmm]; omega⟩
  rintro r I1 ⟨rfl, rfl⟩
  refine V_iret X dX9_browse_61 ?_ ?_ ?_ ?_
  · exact rfl
  · dsimp only [rmm]; omega
  · dsimp only [rmm]; omega
  refine ⟨?_, ?_⟩ <;> rw [op_browse, if_neg c_9]
