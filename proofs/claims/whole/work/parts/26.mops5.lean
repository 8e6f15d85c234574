/-! sampling -/
def smV (S : St) (i : Nat) : Int64 := S.2 3 (nn (S.1 35 i))
def apS (S : St) (i : Nat) : Int64 := if smV S i ≤ S.2 43 i then S.2 43 i - smV S i else smV S i - S.2 43 i
abbrev smC (S : St) (i : Nat) : Prop := ¬ S.1 42 i = 0 ∧ ¬ apS S i < 0 ∧ ¬ S.2 41 i < apS S i
def smA (S : St) (i : Nat) : St := pb (pa S 42 i 1) 43 i (smV S i)
def smB (S : St) (i : Nat) : St := if S.1 44 i = S.1 38 i then (if S.1 39 i = 0 then pa S 44 i (S.1 44 i - 1) else pa (shiftS S i) 47 (8 * i) 1) else S
def smBit (S : St) (i : Nat) : Int32 := if S.1 44 i = S.1 38 i then (if S.1 39 i = 0 then (if S.1 38 i ≤ 1 then 0 else 1) else 0) else 0
def smF (S : St) (i : Nat) (v : Int64) (b : Int32) : St := let S3 := pa S 44 i (S.1 44 i + 1); let S4 := pb S3 45 (8 * i + nn (S.1 44 i)) v; let S5 := pa S4 46 (8 * i + nn (S.1 44 i)) (S4.1 0 0); pa S5 47 (8 * i + nn (S.1 44 i)) b
def sampleS (S : St) (i : Nat) : St := if smC S i then S else smF (smB (smA S i) i) i (smV S i) (smBit (smA S i) i)
theorem shiftS_k {S : St} {i k j : Nat} (h : k ≠ 44 ∧ k ≠ 46 ∧ k ≠ 47) : (shiftS S i).1 k j = S.1 k j := by
  unfold shiftS
  dsimp only
  rw [shS_k h.2, pa_n _ _ h.1]
theorem shiftS_q {S : St} {i : Nat} : (shiftS S i).1 44 i = S.1 44 i - 1 := by
  unfold shiftS
  dsimp only
  rw [shS_k (by decide), pa_s]
theorem shiftS_n {S : St} {i j : Nat} (h : j ≠ i) : (shiftS S i).1 44 j = S.1 44 j := by
  unfold shiftS
  dsimp only
  rw [shS_k (by decide), pa_i _ _ h]
set_option maxRecDepth 100000 in
set_option maxHeartbeats 4000000 in
theorem sample_end {l : Launch} {Z : Zt} {S T : St} {J : aH} {i : Nat} {v ap : Int64} {full : Int32} (X : Fx Z l (rmm 1 0 0 25) cX9_sample 8 RX9 none (fun r I' => r = none ∧ I' = ovl (sampleS S i) J)) (hi : i < 60) (hq : sm (T.1 44 i) 7) (e : sampleS S i = smF T i v (if full = 0 then 0 else if T.1 39 i = 0 then (if T.1 38 i ≤ 1 then 0 else 1) else 0)) : V Z 8 (ovl T J) [some (.ref mO), some (.int (nI i)), some (.long v), none, some (.long ap), none, some (.int full), none] [] 0 0 156 := by
  refine V_bipush (v := 8) X dX9_sample_156 (by decide) ?_
  refine V_iload_n X dX9_sample_158 rfl ?_
  refine V_imul X dX9_sample_159 ?_
  rw [show (8 : Int32) = nI 8 from rfl, pk_mul]
  refine V_aload_n X dX9_sample_160 rfl rfl ?_
  refine M_geta X dX9_sample_161 fk_X9_123 (by decide) rfl ?_
  refine V_iload_n X dX9_sample_164 rfl ?_
  refine M_ialdN X dX9_sample_165 (by decide) rfl (by omega) (by decide) ?_
  refine V_iadd X dX9_sample_166 ?_
  rw [add_nn hq.1]
  refine V_istore X dX9_sample_167 (by decide) rfl ?_
  refine V_aload_n X dX9_sample_169 rfl rfl ?_
  refine M_geta X dX9_sample_170 fk_X9_123 (by decide) rfl ?_
  refine V_iload_n X dX9_sample_173 rfl ?_
  refine V_dup2 X dX9_sample_174 rfl rfl ?_
  refine M_ialdN X dX9_sample_175 (by decide) rfl (by omega) (by decide) ?_
  refine V_iconst (v := 1) X dX9_sample_176 (by decide) ?_
  refine V_iadd X dX9_sample_177 ?_
  refine M_iastN X dX9_sample_178 (by decide) rfl (by omega) (by decide) ?_
  refine V_aload_n X dX9_sample_179 rfl rfl ?_
  refine M_geta X dX9_sample_180 fk_X9_126 (by decide) rfl ?_
  refine V_iload X dX9_sample_183 rfl ?_
  refine V_lload_n X dX9_sample_185 rfl ?_
  refine M_lastN X dX9_sample_186 (by decide) rfl (by omega) (by decide) ?_
  refine V_aload_n X dX9_sample_187 rfl rfl ?_
  refine M_geta X dX9_sample_188 fk_X9_129 (by decide) rfl ?_
  refine V_iload X dX9_sample_191 rfl ?_
  refine V_aload_n X dX9_sample_193 rfl rfl ?_
  refine M_geti X dX9_sample_194 fk_X9_199 (by decide) rfl ?_
  refine M_iastN X dX9_sample_197 (by decide) rfl (by omega) (by decide) ?_
  refine V_aload_n X dX9_sample_198 rfl rfl ?_
  refine M_geta X dX9_sample_199 fk_X9_132 (by decide) rfl ?_
  refine V_iload X dX9_sample_202 rfl ?_
  refine V_iload X dX9_sample_204 rfl ?_
  refine V_if_eq X dX9_sample_206 232 (by decide) (fun c_206 => ?_) (fun c_206 => ?_)
  · refine V_iconst (v := 0) X dX9_sample_232 (by decide) ?_
    refine M_iastN X dX9_sample_233 (by decide) rfl (by omega) (by decide) ?_
    refine V_vret X dX9_sample_234 ?_ ?_ ?_
    · dsimp only [rmm]; omega
    · dsimp only [rmm]; omega
    refine ⟨rfl, ?_⟩
    rw [e, if_pos c_206]
    rfl
  refine V_aload_n X dX9_sample_209 rfl rfl ?_
  refine M_geta X dX9_sample_210 fk_X9_108 (by decide) rfl ?_
  refine V_iload_n X dX9_sample_213 rfl ?_
  refine M_zaldE (T.1 39 i) X dX9_sample_214 (by decide) rfl (by omega) (by decide) (by simp [pa_1, pb_1, pa_2, pb_2]) ?_
  refine V_if_ne X dX9_sample_215 232 (by decide) (fun c_215 => ?_) (fun c_215 => ?_)
  · refine V_iconst (v := 0) X dX9_sample_232 (by decide) ?_
    refine M_iastN X dX9_sample_233 (by decide) rfl (by omega) (by decide) ?_
    refine V_vret X dX9_sample_234 ?_ ?_ ?_
    · dsimp only [rmm]; omega
    · dsimp only [rmm]; omega
    refine ⟨rfl, ?_⟩
    rw [e, if_neg c_206, if_neg c_215]
    rfl
  refine V_aload_n X dX9_sample_218 rfl rfl ?_
  refine M_geta X dX9_sample_219 fk_X9_105 (by decide) rfl ?_
  refine V_iload_n X dX9_sample_222 rfl ?_
  refine M_ialdE (T.1 38 i) X dX9_sample_223 (by decide) rfl (by omega) (by decide) (by simp [pa_1, pb_1, pa_2, pb_2]) ?_
  refine V_iconst (v := 1) X dX9_sample_224 (by decide) ?_
  refine V_icmp_le X dX9_sample_225 232 (by decide) (fun c_225 => ?_) (fun c_225 => ?_)
  · refine V_iconst (v := 0) X dX9_sample_232 (by decide) ?_
    refine M_iastN X dX9_sample_233 (by decide) rfl (by omega) (by decide) ?_
    refine V_vret X dX9_sample_234 ?_ ?_ ?_
    · dsimp only [rmm]; omega
    · dsimp only [rmm]; omega
    refine ⟨rfl, ?_⟩
    rw [e, if_neg c_206, if_pos c_215, if_pos c_225]
    rfl
  refine V_iconst (v := 1) X dX9_sample_228 (by decide) ?_
  refine V_goto X dX9_sample_229 233 (by decide) ?_
  refine M_iastN X dX9_sample_233 (by decide) rfl (by omega) (by decide) ?_
  refine V_vret X dX9_sample_234 ?_ ?_ ?_
  · dsimp only [rmm]; omega
  · dsimp only [rmm]; omega
  refine ⟨rfl, ?_⟩
  rw [e, if_neg c_206, if_pos c_215, if_neg c_225]
  rfl
set_option maxRecDepth 100000 in
set_option maxHeartbeats 4000000 in
theorem sample_mid {l : Launch} {Z : Zt} {S : St} {J : aH} {i : Nat} {ap : Int64} (X : Fx Z l (rmm 1 0 0 25) cX9_sample 8 RX9 none (fun r I' => r = none ∧ I' = ovl (sampleS S i) J)) (hi : i < 60) (hq : sm (S.1 44 i) 8) (hz : sm (S.1 38 i) 8) (hqz : nn (S.1 44 i) ≤ nn (S.1 38 i)) (hz1 : 1 ≤ nn (S.1 38 i)) (hc : ¬ smC S i) : V Z 8 (ovl S J) [some (.ref mO), some (.int (nI i)), some (.long (smV S i)), none, some (.long ap), none, none, none] [] 0 0 73 := by
  have hq2 := hq.2
  have hz2 := hz.2
  have eS : sampleS S i = smF (smB (smA S i) i) i (smV S i) (smBit (smA S i) i) := if_neg hc
  have a44 : (smA S i).1 44 i = S.1 44 i := by simp [smA, pa_1, pb_1]
  have a38 : (smA S i).1 38 i = S.1 38 i := by simp [smA, pa_1, pb_1]
  have a39 : (smA S i).1 39 i = S.1 39 i := by simp [smA, pa_1, pb_1]
  refine V_aload_n X dX9_sample_73 rfl rfl ?_
  refine M_geta X dX9_sample_74 fk_X9_117 (by decide) rfl ?_
  refine V_iload_n X dX9_sample_77 rfl ?_
  refine V_iconst (v := 1) X dX9_sample_78 (by decide) ?_
  refine M_zastN X dX9_sample_79 (by decide) rfl (by omega) (by decide) (rfl) ?_
  refine V_aload_n X dX9_sample_80 rfl rfl ?_
  refine M_geta X dX9_sample_81 fk_X9_120 (by decide) rfl ?_
  refine V_iload_n X dX9_sample_84 rfl ?_
  refine V_lload_n X dX9_sample_85 rfl ?_
  refine M_lastN X dX9_sample_86 (by decide) rfl (by omega) (by decide) ?_
  rw [show pb (pa S 42 i 1) 43 i (smV S i) = smA S i from rfl]
  refine V_aload_n X dX9_sample_87 rfl rfl ?_
  refine M_geta X dX9_sample_88 fk_X9_123 (by decide) rfl ?_
  refine V_iload_n X dX9_sample_91 rfl ?_
  refine M_ialdN X dX9_sample_92 (by decide) rfl (by omega) (by decide) ?_
  rw [a44]
  refine V_aload_n X dX9_sample_93 rfl rfl ?_
  refine M_geta X dX9_sample_94 fk_X9_105 (by decide) rfl ?_
  refine V_iload_n X dX9_sample_97 rfl ?_
  refine M_ialdN X dX9_sample_98 (by decide) rfl (by omega) (by decide) ?_
  rw [a38]
  refine V_icmp_ne X dX9_sample_99 106 (by decide) (fun c_99 => ?_) (fun c_99 => ?_)
  · have hlt : nn (S.1 44 i) < nn (S.1 38 i) := by
      rcases Nat.lt_or_ge (nn (S.1 44 i)) (nn (S.1 38 i)) with z | z
      · exact z
      · exact absurd (by rw [hq.1, hz.1, show nn (S.1 44 i) = nn (S.1 38 i) by omega]) c_99
    refine V_iconst (v := 0) X dX9_sample_106 (by decide) ?_
    refine V_istore X dX9_sample_107 (by decide) rfl ?_
    refine V_iload X dX9_sample_109 rfl ?_
    refine V_if_eq X dX9_sample_111 141 (by decide) (fun c_111 => ?_) (fun c_111 => ?_)
    · refine V_iload X dX9_sample_141 rfl ?_
      refine V_if_eq X dX9_sample_143 156 (by decide) (fun c_143 => ?_) (fun c_143 => ?_)
      · refine sample_end X hi ?_ ?_
        · rw [a44]; exact ⟨hq.1, by omega⟩
        · have hne : ¬ (smA S i).1 44 i = (smA S i).1 38 i := by rw [a44, a38]; exact c_99
          rw [eS, smB, smBit, if_neg hne, if_neg hne, if_pos rfl]
      · exact absurd c_143 (by decide)
    · exact absurd c_111 (by decide)
  have heq : (smA S i).1 44 i = (smA S i).1 38 i := by rw [a44, a38]; exact c_99
  have hqq : nn (S.1 44 i) = nn (S.1 38 i) := by rw [c_99]
  refine V_iconst (v := 1) X dX9_sample_102 (by decide) ?_
  refine V_goto X dX9_sample_103 107 (by decide) ?_
  refine V_istore X dX9_sample_107 (by decide) rfl ?_
  refine V_iload X dX9_sample_109 rfl ?_
  refine V_if_eq X dX9_sample_111 141 (by decide) (fun c_111 => ?_) (fun c_111 => ?_)
  · exact absurd c_111 (by decide)
  refine V_aload_n X dX9_sample_114 rfl rfl ?_
  refine M_geta X dX9_sample_115 fk_X9_108 (by decide) rfl ?_
  refine V_iload_n X dX9_sample_118 rfl ?_
  refine M_zaldN X dX9_sample_119 (by decide) rfl (by omega) (by decide) ?_
  rw [a39]
  refine V_if_eq X dX9_sample_120 141 (by decide) (fun c_120 => ?_) (fun c_120 => ?_)
  · have ho : (smA S i).1 39 i = 0 := by rw [a39]; exact c_120
    refine V_iload X dX9_sample_141 rfl ?_
    refine V_if_eq X dX9_sample_143 156 (by decide) (fun c_143 => ?_) (fun c_143 => ?_)
    · exact absurd c_143 (by decide)
    refine V_aload_n X dX9_sample_146 rfl rfl ?_
    refine M_geta X dX9_sample_147 fk_X9_123 (by decide) rfl ?_
    refine V_iload_n X dX9_sample_150 rfl ?_
    refine V_dup2 X dX9_sample_151 rfl rfl ?_
    refine M_ialdN X dX9_sample_152 (by decide) rfl (by omega) (by decide) ?_
    refine V_iconst (v := 1) X dX9_sample_153 (by decide) ?_
    refine V_isub X dX9_sample_154 ?_
    refine M_iastN X dX9_sample_155 (by decide) rfl (by omega) (by decide) ?_
    refine sample_end X hi ?_ ?_
    · rw [pa_s, a44, hq.1]
      exact sm_of (j := nn (S.1 44 i) - 1) (by rw [show (1 : Int32) = nI 1 from rfl, pk_sub (by omega)]) (by omega) (by decide)
    · rw [eS, smB, smBit, if_pos heq, if_pos heq, if_pos ho, if_pos ho, if_neg (show ¬ (1 : Int32) = 0 by decide), pa_n _ _ (by decide), pa_n _ _ (by decide), if_pos ho]
  have ho : ¬ (smA S i).1 39 i = 0 := by rw [a39]; exact c_120
  refine V_aload_n X dX9_sample_123 rfl rfl ?_
  refine V_iload_n X dX9_sample_124 rfl ?_
  apply V_callV1 X dX9_sample_125 mk_X9_195 iv_X9_shift (c_shift l (q := nn (S.1 44 i) - 1) hi (by omega) (by rw [a44, show nn (S.1 44 i) - 1 + 1 = nn (S.1 44 i) by omega]; exact hq.1))
  · first | assumption | exact hu_s | exact (hu_n (by first | exact kd_nk (by decide) | exact kd_ni (by omega) | exact kd_ng (by omega) | assumption | exact Ne.symm (by assumption))).trans (by first | assumption | exact hu_s | exact (hu_n (by first | exact kd_nk (by decide) | exact kd_ni (by omega) | exact kd_ng (by omega) | assumption | exact Ne.symm (by assumption))).trans (by first | assumption | exact hu_s | exact (hu_n (by first | exact kd_nk (by decide) | exact kd_ni (by omega) | exact kd_ng (by omega) | assumption | exact Ne.symm (by assumption))).trans (by first | assumption | exact hu_s)))
  · exact rfl
  · exact Nat.le_of_ble_eq_true rfl
  · exact ⟨Nat.le_of_ble_eq_true rfl, Nat.le_of_ble_eq_true rfl⟩
  · exact ⟨by dsimp only [rmm]; omega, by dsimp only [rmm]; omega⟩
  rintro r I1 ⟨rfl, rfl⟩
  refine V_aload_n X dX9_sample_128 rfl rfl ?_
  refine M_geta X dX9_sample_129 fk_X9_132 (by decide) rfl ?_
  refine V_bipush (v := 8) X dX9_sample_132 (by decide) ?_
  refine V_iload_n X dX9_sample_134 rfl ?_
  refine V_imul X dX9_sample_135 ?_
  rw [show (8 : Int32) = nI 8 from rfl, pk_mul]
  refine V_iconst (v := 1) X dX9_sample_136 (by decide) ?_
  refine M_iastN X dX9_sample_137 (by decide) rfl (by omega) (by decide) ?_
  refine V_goto X dX9_sample_138 156 (by decide) ?_
  refine sample_end X hi ?_ ?_
  · rw [pa_n _ _ (by decide), shiftS_q, a44, hq.1]
    exact sm_of (j := nn (S.1 44 i) - 1) (by rw [show (1 : Int32) = nI 1 from rfl, pk_sub (by omega)]) (by omega) (by decide)
  · rw [eS, smB, smBit, if_pos heq, if_pos heq, if_neg ho, if_neg ho, if_neg (show ¬ (1 : Int32) = 0 by decide), pa_n _ _ (by decide), shiftS_k (by decide), if_neg ho]
set_option maxRecDepth 100000 in
set_option maxHeartbeats 4000000 in
theorem c_sample (l : Launch) {S : St} {J : aH} {i : Nat} (hi : i < 60) (hQ : IvQ S i) (hz1 : 1 ≤ nn (S.1 38 i)) : AM l yX9_sample cX9_sample 8 none (rmm 1 0 0 25) [.ref mO, .int (nI i)] (ovl S J) (fun r I' => r = none ∧ I' = ovl (sampleS S i) J) := by
  obtain ⟨hq, hz, hqz, hn, hs⟩ := hQ
  have hn2 := hn.2
  have hq2 := hq.2
  have hz2 := hz.2
  refine AM_of RX9 (by decide) rfl [some (.ref mO), some (.int (nI i)), none, none, none, none, none, none] rfl (Nat.le_of_ble_eq_true rfl) (fun Z X hNm => ?_)
  refine V_aload_n X dX9_sample_0 rfl rfl ?_
  refine M_geta X dX9_sample_1 fk_X9_13 (by decide) rfl ?_
  refine V_aload_n X dX9_sample_4 rfl rfl ?_
  refine M_geta X dX9_sample_5 fk_X9_96 (by decide) rfl ?_
  refine V_iload_n X dX9_sample_8 rfl ?_
  refine M_ialdN X dX9_sample_9 (by decide) rfl (by omega) (by decide) ?_
  refine M_lald X dX9_sample_10 (by decide) rfl (by rw [hn.1]; exact vp_in_nI2 (by omega) (by omega)) ?_
  refine V_lstore_n X dX9_sample_11 (by decide) rfl ?_
  refine V_lload_n X dX9_sample_12 rfl ?_
  refine V_aload_n X dX9_sample_13 rfl rfl ?_
  refine M_geta X dX9_sample_14 fk_X9_120 (by decide) rfl ?_
  refine V_iload_n X dX9_sample_17 rfl ?_
  refine M_laldN X dX9_sample_18 (by decide) rfl (by omega) (by decide) ?_
  refine V_lcmp X dX9_sample_19 ?_
  refine V_if_le X dX9_sample_20 34 (by decide) (fun c_20 => ?_) (fun c_20 => ?_)
  · rw [lg_cmp_le] at c_20
    have ea : apS S i = S.2 43 i - smV S i := if_pos c_20
    refine V_aload_n X dX9_sample_34 rfl rfl ?_
    refine M_geta X dX9_sample_35 fk_X9_120 (by decide) rfl ?_
    refine V_iload_n X dX9_sample_38 rfl ?_
    refine M_laldN X dX9_sample_39 (by decide) rfl (by omega) (by decide) ?_
    refine V_lload_n X dX9_sample_40 rfl ?_
    refine V_lsub X dX9_sample_41 ?_
    refine V_lstore X dX9_sample_42 (by decide) rfl ?_
    refine V_aload_n X dX9_sample_44 rfl rfl ?_
    refine M_geta X dX9_sample_45 fk_X9_117 (by decide) rfl ?_
    refine V_iload_n X dX9_sample_48 rfl ?_
    refine M_zaldN X dX9_sample_49 (by decide) rfl (by omega) (by decide) ?_
    refine V_if_eq X dX9_sample_50 73 (by decide) (fun c_50 => ?_) (fun c_50 => ?_)
    · have hc : ¬ smC S i := fun q => q.1 c_50
      exact sample_mid X hi hq hz hqz hz1 hc
    refine V_lload X dX9_sample_53 rfl ?_
    refine V_lconst (v := 0) X dX9_sample_55 (by decide) ?_
    refine V_lcmp X dX9_sample_56 ?_
    refine V_if_lt X dX9_sample_57 73 (by decide) (fun c_57 => ?_) (fun c_57 => ?_)
    · rw [lg_cmp_lt] at c_57
      have hc : ¬ smC S i := fun q => q.2.1 (by rw [ea]; exact c_57)
      exact sample_mid X hi hq hz hqz hz1 hc
    rw [lg_cmp_lt] at c_57
    refine V_lload X dX9_sample_60 rfl ?_
    refine V_aload_n X dX9_sample_62 rfl rfl ?_
    refine M_geta X dX9_sample_63 fk_X9_114 (by decide) rfl ?_
    refine V_iload_n X dX9_sample_66 rfl ?_
    refine M_laldN X dX9_sample_67 (by decide) rfl (by omega) (by decide) ?_
    refine V_lcmp X dX9_sample_68 ?_
    refine V_if_gt X dX9_sample_69 73 (by decide) (fun c_69 => ?_) (fun c_69 => ?_)
    · rw [lg_cmp_gt] at c_69
      have hc : ¬ smC S i := fun q => q.2.2 (by rw [ea]; exact c_69)
      exact sample_mid X hi hq hz hqz hz1 hc
    rw [lg_cmp_gt] at c_69
    have hc : smC S i := ⟨c_50, by rw [ea]; exact c_57, by rw [ea]; exact c_69⟩
    refine V_vret X dX9_sample_72 ?_ ?_ ?_
    · dsimp only [rmm]; omega
    · dsimp only [rmm]; omega
    exact ⟨rfl, by rw [sampleS, if_pos hc]⟩
  rw [lg_cmp_le] at c_20
  have ea : apS S i = smV S i - S.2 43 i := if_neg c_20
  refine V_lload_n X dX9_sample_23 rfl ?_
  refine V_aload_n X dX9_sample_24 rfl rfl ?_
  refine M_geta X dX9_sample_25 fk_X9_120 (by decide) rfl ?_
  refine V_iload_n X dX9_sample_28 rfl ?_
  refine M_laldN X dX9_sample_29 (by decide) rfl (by omega) (by decide) ?_
  refine V_lsub X dX9_sample_30 ?_
  refine V_goto X dX9_sample_31 42 (by decide) ?_
  refine V_lstore X dX9_sample_42 (by decide) rfl ?_
  refine V_aload_n X dX9_sample_44 rfl rfl ?_
  refine M_geta X dX9_sample_45 fk_X9_117 (by decide) rfl ?_
  refine V_iload_n X dX9_sample_48 rfl ?_
  refine M_zaldN X dX9_sample_49 (by decide) rfl (by omega) (by decide) ?_
  refine V_if_eq X dX9_sample_50 73 (by decide) (fun c_50 => ?_) (fun c_50 => ?_)
  · have hc : ¬ smC S i := fun q => q.1 c_50
    exact sample_mid X hi hq hz hqz hz1 hc
  refine V_lload X dX9_sample_53 rfl ?_
  refine V_lconst (v := 0) X dX9_sample_55 (by decide) ?_
  refine V_lcmp X dX9_sample_56 ?_
  refine V_if_lt X dX9_sample_57 73 (by decide) (fun c_57 => ?_) (fun c_57 => ?_)
  · rw [lg_cmp_lt] at c_57
    have hc : ¬ smC S i := fun q => q.2.1 (by rw [ea]; exact c_57)
    exact sample_mid X hi hq hz hqz hz1 hc
  rw [lg_cmp_lt] at c_57
  refine V_lload X dX9_sample_60 rfl ?_
  refine V_aload_n X dX9_sample_62 rfl rfl ?_
  refine M_geta X dX9_sample_63 fk_X9_114 (by decide) rfl ?_
  refine V_iload_n X dX9_sample_66 rfl ?_
  refine M_laldN X dX9_sample_67 (by decide) rfl (by omega) (by decide) ?_
  refine V_lcmp X dX9_sample_68 ?_
  refine V_if_gt X dX9_sample_69 73 (by decide) (fun c_69 => ?_) (fun c_69 => ?_)
  · rw [lg_cmp_gt] at c_69
    have hc : ¬ smC S i := fun q => q.2.2 (by rw [ea]; exact c_69)
    exact sample_mid X hi hq hz hqz hz1 hc
  rw [lg_cmp_gt] at c_69
  have hc : smC S i := ⟨c_50, by rw [ea]; exact c_57, by rw [ea]; exact c_69⟩
  refine V_vret X dX9_sample_72 ?_ ?_ ?_
  · dsimp only [rmm]; omega
  · dsimp only [rmm]; omega
  exact ⟨rfl, by rw [sampleS, if_pos hc]⟩
