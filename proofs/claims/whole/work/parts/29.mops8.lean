/-! a TICK -/
abbrev remI (x y : Int32) : Int32 := x - x / y * y
def st1 (i : Nat) (S : St) : St := if S.1 33 i = 0 then S else if S.1 40 i ≤ 0 then S else if remI (S.1 0 0 - S.1 36 i) (S.1 37 i) = 0 then sampleS S i else S
def st2 (b : Nat) (S : St) : St := if S.1 16 b = 0 then S else if remI (S.1 0 0 - S.1 18 b) (S.1 19 b) = 0 then cycS S b else S
def st3 (s : Nat) (S : St) : St := if S.1 11 s = 2 then S else if S.1 10 s = S.1 0 0 then (shutS S (nI s)).1 else S
def sA (S : St) : St := pa S 0 0 (S.1 0 0 + 1)
def sB (S : St) : St := lp st1 (nn (S.1 32 0)) (sA S)
def sC (S : St) : St := lp st2 (nn (S.1 15 0)) (sB S)
def stepS (S : St) : St := lp st3 (nn (S.1 8 0)) (sC S)
/-- the fields that a TICK leaves, but for sampling's and TIME -/
abbrev tch : List Nat := [48, 49, 50, 53, 24, 44, 46, 47, 56, 57, 58, 54, 51, 52, 31, 14, 13, 12, 27, 25, 26, 28, 29, 30, 16, 33, 42, 0, 11]
abbrev ntc (k : Nat) : Prop := k ∉ tch
theorem ntc_n {k j : Nat} (h : ntc k) (hj : j ∈ tch) : k ≠ j := fun e => h (e ▸ hj)
theorem short_k {S : St} {s : Int32} {k i : Nat} (h : ntc k) : (shortS S s).1 k i = S.1 k i := by
  have hl : (lateS S s).1 k i = S.1 k i := by
    unfold lateS
    split
    · dsimp only
      rw [pa_n _ _ (ntc_n h (by decide)), pa_n _ _ (ntc_n h (by decide)), pa_n _ _ (ntc_n h (by decide))]
    · rfl
  unfold shortS
  dsimp only
  split
  · rw [pa_n _ _ (ntc_n h (by decide)), hl]
  · rw [remS_k ⟨ntc_n h (by decide), ntc_n h (by decide), ntc_n h (by decide)⟩, pa_n _ _ (ntc_n h (by decide)), hl]
theorem make_n {S : St} {b k i : Nat} (h : ntc k) : (makeS S b).1 k i = S.1 k i := make_k (by
  refine ⟨⟨⟨⟨?_, ?_, ?_, ?_⟩, ?_, ?_, ?_, ?_, ?_, ?_, ?_⟩, ?_, ?_, ?_⟩, ?_, ?_, ?_, ?_, ?_, ?_, ?_, ?_⟩ <;> exact ntc_n h (by decide))
theorem cycW_n {b k i : Nat} (h : ntc k) : ∀ (f : Nat) (S : St), (cycW b f S).1 k i = S.1 k i
  | 0, _ => rfl
  | f + 1, S => by
    unfold cycW
    split
    · split
      · exact make_n h
      · split
        · exact make_n h
        · exact (cycW_n h f _).trans (make_n h)
    · exact short_k h
theorem cyc_n {S : St} {b k i : Nat} (h : ntc k) : (cycS S b).1 k i = S.1 k i := by
  have h1 : (cycN S b).1 k i = S.1 k i := pa_n _ _ (ntc_n h (by decide))
  unfold cycS
  split
  · exact cycW_n h 5 S
  · dsimp only
    split
    · split
      · exact (make_n h).trans h1
      · exact (short_k h).trans h1
    · split
      · split
        · exact (make_n h).trans h1
        · exact (short_k h).trans h1
      · exact h1
theorem st1_n {k i : Nat} (h : ntc k) (n : Nat) (S : St) : (st1 n S).1 k i = S.1 k i := by
  unfold st1
  split
  · rfl
  · split
    · rfl
    · split
      · exact sampleS_k ⟨ntc_n h (by decide), ntc_n h (by decide), ntc_n h (by decide), ntc_n h (by decide)⟩
      · rfl
theorem st2_n {k i : Nat} (h : ntc k) (n : Nat) (S : St) : (st2 n S).1 k i = S.1 k i := by
  unfold st2
  split
  · rfl
  · split
    · exact cyc_n h
    · rfl
theorem st3_n {k i : Nat} (h : ntc k) (n : Nat) (S : St) : (st3 n S).1 k i = S.1 k i := by
  unfold st3
  split
  · rfl
  · split
    · exact shut_k ⟨⟨ntc_n h (by decide), ntc_n h (by decide), ntc_n h (by decide)⟩, ntc_n h (by decide), ntc_n h (by decide)⟩
    · rfl
theorem sA_n {S : St} {k i : Nat} (h : ntc k) : (sA S).1 k i = S.1 k i := pa_n _ _ (ntc_n h (by decide))
theorem sB_n {S : St} {k i : Nat} (h : ntc k) : (sB S).1 k i = S.1 k i := (lp_k (st1_n h) _ _).trans (sA_n h)
theorem sC_n {S : St} {k i : Nat} (h : ntc k) : (sC S).1 k i = S.1 k i := (lp_k (st2_n h) _ _).trans (sB_n h)
theorem step_n {S : St} {k i : Nat} (h : ntc k) : (stepS S).1 k i = S.1 k i := (lp_k (st3_n h) _ _).trans (sC_n h)
theorem Iv.l1 {c : Nat} {S : St} (h : Iv c S) : ∀ x, x ≤ nn (S.1 32 0) → Iv c (lp st1 x (sA S))
  | 0, _ => h.put rfl
  | x + 1, hx => by
    have ih := h.l1 x (by omega)
    obtain ⟨N, hN, e⟩ := h.1.2.2.1
    have hxN : x < N := by rw [e, nnI (by omega)] at hx; omega
    rw [lp]
    generalize hT : lp st1 x (sA S) = T at ih
    have e32 : T.1 32 0 = S.1 32 0 := by rw [← hT]; exact (lp_k (st1_n (by decide)) _ _).trans (sA_n (by decide))
    unfold st1
    split
    · exact ih
    · split
      · exact ih
      · split
        · exact ih.sample (by rw [e32]; omega) (by omega)
        · exact ih
theorem Iv.l2 {c : Nat} {S : St} (h : Iv c S) : ∀ x, x ≤ 20 → Iv c (lp st2 x (sB S))
  | 0, _ => h.l1 _ (Nat.le_refl _)
  | x + 1, hx => by
    have ih := h.l2 x (by omega)
    rw [lp]
    generalize lp st2 x (sB S) = T at ih
    unfold st2
    split
    · exact ih
    · split
      · exact ih.cyc (by omega)
      · exact ih
theorem ct_nn {S : St} {k b : Nat} (h : ct S k b) (hb : b < 2 ^ 31) : nn (S.1 k 0) ≤ b ∧ S.1 k 0 = nI (nn (S.1 k 0)) := by
  obtain ⟨N, hN, e⟩ := h
  have e2 : nn (S.1 k 0) = N := by rw [e]; exact nnI (by omega)
  exact ⟨by omega, by rw [e2]; exact e⟩
theorem Iv.l3 {c : Nat} {S : St} (h : Iv c S) : ∀ x, x ≤ 12 → Iv c (lp st3 x (sC S))
  | 0, _ => h.l2 _ (ct_nn h.1.2.1 (by decide)).1
  | x + 1, hx => by
    have ih := h.l3 x (by omega)
    rw [lp]
    generalize lp st3 x (sC S) = T at ih
    unfold st3
    split
    · exact ih
    · split
      · exact ih.shut (by omega)
      · exact ih
theorem Iv.step {c : Nat} {S : St} (h : Iv c S) : Iv c (stepS S) := h.l3 _ (ct_nn h.1.1 (by decide)).1
theorem sm_ne0 {x : Int32} {b : Nat} (h : sm x b) (h1 : 1 ≤ nn x) : ¬ x = 0 := fun e => by rw [e] at h1; exact absurd h1 (by decide)
set_option maxRecDepth 100000 in
set_option maxHeartbeats 4000000 in
theorem step_l3 {l : Launch} {Z : Zt} {S : St} {J : aH} {c : Nat} (hI : Iv c S) (X : Fx Z l (rmm 4 0 0 110) cX9_step 3 RX9 none (fun r I' => r = none ∧ I' = ovl (stepS S) J)) : ∀ (m x : Nat) (o2 : Option Value), nn (S.1 8 0) - x < m → x ≤ nn (S.1 8 0) → V Z 3 (ovl (lp st3 x (sC S)) J) [some (.ref mO), some (.int (nI x)), o2] [] 0 0 123
  | 0, _, _, _, _ => absurd (by assumption) (Nat.not_lt_zero _)
  | m + 1, x, o2, hm, hx => by
    refine V_iload_n X dX9_step_123 rfl ?_
    refine V_aload_n X dX9_step_124 rfl rfl ?_
    have c8 := ct_nn hI.1.1 (by decide)
    have hT := hI.l3 x (by omega)
    refine M_getiE (nI (nn (S.1 8 0))) X dX9_step_125 fk_X9_248 (by decide) rfl (by rw [lp_k (st3_n (by decide)), sC_n (by decide)]; exact c8.2) ?_
    refine V_icmp_ge X dX9_step_128 166 (by decide) (fun c_128 => ?_) (fun c_128 => ?_)
    · have hx2 : x = nn (S.1 8 0) := by
        rcases Nat.lt_or_ge x (nn (S.1 8 0)) with z | z
        · exact absurd c_128 (nI_ge z (by omega))
        · omega
      refine V_vret X dX9_step_166 ?_ ?_ ?_
      · dsimp only [rmm]; omega
      · dsimp only [rmm]; omega
      exact ⟨rfl, by rw [stepS, hx2]⟩
    have hlt : x < nn (S.1 8 0) := by
      rcases Nat.lt_or_ge x (nn (S.1 8 0)) with z | z
      · exact z
      · exact absurd (nI_le z (by omega)) c_128
    refine V_aload_n X dX9_step_131 rfl rfl ?_
    refine M_geta X dX9_step_132 fk_X9_32 (by decide) rfl ?_
    refine V_iload_n X dX9_step_135 rfl ?_
    refine M_ialdN X dX9_step_136 (by decide) rfl (by omega) (by decide) ?_
    refine V_iconst (v := 2) X dX9_step_137 (by decide) ?_
    refine V_icmp_eq X dX9_step_138 160 (by decide) (fun c_138 => ?_) (fun c_138 => ?_)
    · refine V_iinc X dX9_step_160 rfl (by decide) rfl (nI (x + 1)) (nI_1 x) ?_
      refine V_goto X dX9_step_163 123 (by decide) ?_
      have k := step_l3 hI X m (x + 1) o2 (by omega) (by omega)
      rw [lp, st3, if_pos c_138] at k
      exact k
    refine V_aload_n X dX9_step_141 rfl rfl ?_
    refine M_geta X dX9_step_142 fk_X9_29 (by decide) rfl ?_
    refine V_iload_n X dX9_step_145 rfl ?_
    refine M_ialdN X dX9_step_146 (by decide) rfl (by omega) (by decide) ?_
    refine V_aload_n X dX9_step_147 rfl rfl ?_
    refine M_geti X dX9_step_148 fk_X9_199 (by decide) rfl ?_
    refine V_icmp_ne X dX9_step_151 160 (by decide) (fun c_151 => ?_) (fun c_151 => ?_)
    · refine V_iinc X dX9_step_160 rfl (by decide) rfl (nI (x + 1)) (nI_1 x) ?_
      refine V_goto X dX9_step_163 123 (by decide) ?_
      have k := step_l3 hI X m (x + 1) o2 (by omega) (by omega)
      rw [lp, st3, if_neg c_138, if_neg c_151] at k
      exact k
    refine V_aload_n X dX9_step_154 rfl rfl ?_
    refine V_iload_n X dX9_step_155 rfl ?_
    apply V_callV1 X dX9_step_156 mk_X9_251 iv_X9_shut (c_shut l (vp_in_nI2 (by omega) (by omega)) hT.1.2.1 hT.1.2.2.1 (ct_up hT.1.2.2.2 (by decide)))
    · first | assumption | exact hu_s | exact (hu_n (by first | exact kd_nk (by decide) | exact kd_ni (by omega) | exact kd_ng (by omega) | assumption | exact Ne.symm (by assumption))).trans (by first | assumption | exact hu_s | exact (hu_n (by first | exact kd_nk (by decide) | exact kd_ni (by omega) | exact kd_ng (by omega) | assumption | exact Ne.symm (by assumption))).trans (by first | assumption | exact hu_s | exact (hu_n (by first | exact kd_nk (by decide) | exact kd_ni (by omega) | exact kd_ng (by omega) | assumption | exact Ne.symm (by assumption))).trans (by first | assumption | exact hu_s)))
    · exact rfl
    · exact Nat.le_of_ble_eq_true rfl
    · exact ⟨Nat.le_of_ble_eq_true rfl, Nat.le_of_ble_eq_true rfl⟩
    · exact ⟨by dsimp only [rmm]; omega, by dsimp only [rmm]; omega⟩
    rintro r I1 ⟨rfl, rfl⟩
    refine V_istore_n X dX9_step_159 (by decide) rfl ?_
    refine V_iinc X dX9_step_160 rfl (by decide) rfl (nI (x + 1)) (nI_1 x) ?_
    refine V_goto X dX9_step_163 123 (by decide) ?_
    have k := step_l3 hI X m (x + 1) (some (.int (shutS (lp st3 x (sC S)) (nI x)).2)) (by omega) (by omega)
    rw [lp, st3, if_neg c_138, if_pos c_151] at k
    exact k
set_option maxRecDepth 100000 in
set_option maxHeartbeats 4000000 in
theorem step_l2 {l : Launch} {Z : Zt} {S : St} {J : aH} {c : Nat} (hI : Iv c S) (X : Fx Z l (rmm 4 0 0 110) cX9_step 3 RX9 none (fun r I' => r = none ∧ I' = ovl (stepS S) J)) : ∀ (m x : Nat), nn (S.1 15 0) - x < m → x ≤ nn (S.1 15 0) → V Z 3 (ovl (lp st2 x (sB S)) J) [some (.ref mO), some (.int (nI x)), none] [] 0 0 72
  | 0, _, _, _ => absurd (by assumption) (Nat.not_lt_zero _)
  | m + 1, x, hm, hx => by
    refine V_iload_n X dX9_step_72 rfl ?_
    refine V_aload_n X dX9_step_73 rfl rfl ?_
    have c15 := ct_nn hI.1.2.1 (by decide)
    have hT := hI.l2 x (by omega)
    refine M_getiE (nI (nn (S.1 15 0))) X dX9_step_74 fk_X9_224 (by decide) rfl (by rw [lp_k (st2_n (by decide)), sB_n (by decide)]; exact c15.2) ?_
    refine V_icmp_ge X dX9_step_77 121 (by decide) (fun c_77 => ?_) (fun c_77 => ?_)
    · have hx2 : x = nn (S.1 15 0) := by
        rcases Nat.lt_or_ge x (nn (S.1 15 0)) with z | z
        · exact absurd c_77 (nI_ge z (by omega))
        · omega
      have eC : lp st2 x (sB S) = sC S := by rw [sC, hx2]
      rw [eC]
      refine V_iconst (v := 0) X dX9_step_121 (by decide) ?_
      refine V_istore_n X dX9_step_122 (by decide) rfl ?_
      exact step_l3 hI X (nn (S.1 8 0) + 1) 0 none (by omega) (Nat.zero_le _)
    have hlt : x < nn (S.1 15 0) := by
      rcases Nat.lt_or_ge x (nn (S.1 15 0)) with z | z
      · exact z
      · exact absurd (nI_le z (by omega)) c_77
    refine V_aload_n X dX9_step_80 rfl rfl ?_
    refine M_geta X dX9_step_81 fk_X9_44 (by decide) rfl ?_
    refine V_iload_n X dX9_step_84 rfl ?_
    refine M_zaldN X dX9_step_85 (by decide) rfl (by omega) (by decide) ?_
    refine V_if_eq X dX9_step_86 115 (by decide) (fun c_86 => ?_) (fun c_86 => ?_)
    · refine V_iinc X dX9_step_115 rfl (by decide) rfl (nI (x + 1)) (nI_1 x) ?_
      refine V_goto X dX9_step_118 72 (by decide) ?_
      refine step_l2 hI X m (x + 1) (by omega) (by omega) |> fun k => ?_
      rw [lp, st2, if_pos c_86] at k
      exact k
    refine V_aload_n X dX9_step_89 rfl rfl ?_
    refine M_geti X dX9_step_90 fk_X9_199 (by decide) rfl ?_
    refine V_aload_n X dX9_step_93 rfl rfl ?_
    refine M_geta X dX9_step_94 fk_X9_51 (by decide) rfl ?_
    refine V_iload_n X dX9_step_97 rfl ?_
    refine M_ialdN X dX9_step_98 (by decide) rfl (by omega) (by decide) ?_
    refine V_isub X dX9_step_99 ?_
    refine V_aload_n X dX9_step_100 rfl rfl ?_
    refine M_geta X dX9_step_101 fk_X9_54 (by decide) rfl ?_
    refine V_iload_n X dX9_step_104 rfl ?_
    refine M_ialdN X dX9_step_105 (by decide) rfl (by omega) (by decide) ?_
    have hper := hT.2.2.2.2.2.1 x (by rw [lp_k (st2_n (by decide)), sB_n (by decide)]; exact hlt)
    refine V_irem X dX9_step_106 (sm_ne0 hper.2 hper.1) ?_
    refine V_if_ne X dX9_step_107 115 (by decide) (fun c_107 => ?_) (fun c_107 => ?_)
    · refine V_iinc X dX9_step_115 rfl (by decide) rfl (nI (x + 1)) (nI_1 x) ?_
      refine V_goto X dX9_step_118 72 (by decide) ?_
      refine step_l2 hI X m (x + 1) (by omega) (by omega) |> fun k => ?_
      rw [lp, st2, if_neg c_86, if_neg c_107] at k
      exact k
    refine V_aload_n X dX9_step_110 rfl rfl ?_
    refine V_iload_n X dX9_step_111 rfl ?_
    apply V_callV1 X dX9_step_112 mk_X9_245 iv_X9_cycle (c_cycle l hT (by omega))
    · first | assumption | exact hu_s | exact (hu_n (by first | exact kd_nk (by decide) | exact kd_ni (by omega) | exact kd_ng (by omega) | assumption | exact Ne.symm (by assumption))).trans (by first | assumption | exact hu_s | exact (hu_n (by first | exact kd_nk (by decide) | exact kd_ni (by omega) | exact kd_ng (by omega) | assumption | exact Ne.symm (by assumption))).trans (by first | assumption | exact hu_s | exact (hu_n (by first | exact kd_nk (by decide) | exact kd_ni (by omega) | exact kd_ng (by omega) | assumption | exact Ne.symm (by assumption))).trans (by first | assumption | exact hu_s)))
    · exact rfl
    · exact Nat.le_of_ble_eq_true rfl
    · exact ⟨Nat.le_of_ble_eq_true rfl, Nat.le_of_ble_eq_true rfl⟩
    · exact ⟨by dsimp only [rmm]; omega, by dsimp only [rmm]; omega⟩
    rintro r I1 ⟨rfl, rfl⟩
    refine V_iinc X dX9_step_115 rfl (by decide) rfl (nI (x + 1)) (nI_1 x) ?_
    refine V_goto X dX9_step_118 72 (by decide) ?_
    refine step_l2 hI X m (x + 1) (by omega) (by omega) |> fun k => ?_
    rw [lp, st2, if_neg c_86, if_pos c_107] at k
    exact k
set_option maxRecDepth 100000 in
set_option maxHeartbeats 4000000 in
theorem step_l1 {l : Launch} {Z : Zt} {S : St} {J : aH} {c : Nat} (hI : Iv c S) (X : Fx Z l (rmm 4 0 0 110) cX9_step 3 RX9 none (fun r I' => r = none ∧ I' = ovl (stepS S) J)) : ∀ (m x : Nat), nn (S.1 32 0) - x < m → x ≤ nn (S.1 32 0) → V Z 3 (ovl (lp st1 x (sA S)) J) [some (.ref mO), some (.int (nI x)), none] [] 0 0 12
  | 0, _, _, _ => absurd (by assumption) (Nat.not_lt_zero _)
  | m + 1, x, hm, hx => by
    refine V_iload_n X dX9_step_12 rfl ?_
    refine V_aload_n X dX9_step_13 rfl rfl ?_
    have c32 := ct_nn hI.1.2.2.1 (by decide)
    have hT := hI.l1 x hx
    refine M_getiE (nI (nn (S.1 32 0))) X dX9_step_14 fk_X9_202 (by decide) rfl (by rw [lp_k (st1_n (by decide)), sA_n (by decide)]; exact c32.2) ?_
    refine V_icmp_ge X dX9_step_17 70 (by decide) (fun c_17 => ?_) (fun c_17 => ?_)
    · have hx2 : x = nn (S.1 32 0) := by
        rcases Nat.lt_or_ge x (nn (S.1 32 0)) with z | z
        · exact absurd c_17 (nI_ge z (by omega))
        · omega
      have eB : lp st1 x (sA S) = sB S := by rw [sB, hx2]
      rw [eB]
      refine V_iconst (v := 0) X dX9_step_70 (by decide) ?_
      refine V_istore_n X dX9_step_71 (by decide) rfl ?_
      exact step_l2 hI X (nn (S.1 15 0) + 1) 0 (by omega) (Nat.zero_le _)
    have hlt : x < nn (S.1 32 0) := by
      rcases Nat.lt_or_ge x (nn (S.1 32 0)) with z | z
      · exact z
      · exact absurd (nI_le z (by omega)) c_17
    refine V_aload_n X dX9_step_20 rfl rfl ?_
    refine M_geta X dX9_step_21 fk_X9_90 (by decide) rfl ?_
    refine V_iload_n X dX9_step_24 rfl ?_
    refine M_zaldN X dX9_step_25 (by decide) rfl (by omega) (by decide) ?_
    refine V_if_eq X dX9_step_26 64 (by decide) (fun c_26 => ?_) (fun c_26 => ?_)
    · refine V_iinc X dX9_step_64 rfl (by decide) rfl (nI (x + 1)) (nI_1 x) ?_
      refine V_goto X dX9_step_67 12 (by decide) ?_
      refine step_l1 hI X m (x + 1) (by omega) (by omega) |> fun k => ?_
      rw [lp, st1, if_pos c_26] at k
      exact k
    refine V_aload_n X dX9_step_29 rfl rfl ?_
    refine M_geta X dX9_step_30 fk_X9_111 (by decide) rfl ?_
    refine V_iload_n X dX9_step_33 rfl ?_
    refine M_ialdN X dX9_step_34 (by decide) rfl (by omega) (by decide) ?_
    refine V_if_le X dX9_step_35 64 (by decide) (fun c_35 => ?_) (fun c_35 => ?_)
    · refine V_iinc X dX9_step_64 rfl (by decide) rfl (nI (x + 1)) (nI_1 x) ?_
      refine V_goto X dX9_step_67 12 (by decide) ?_
      refine step_l1 hI X m (x + 1) (by omega) (by omega) |> fun k => ?_
      rw [lp, st1, if_neg c_26, if_pos c_35] at k
      exact k
    refine V_aload_n X dX9_step_38 rfl rfl ?_
    refine M_geti X dX9_step_39 fk_X9_199 (by decide) rfl ?_
    refine V_aload_n X dX9_step_42 rfl rfl ?_
    refine M_geta X dX9_step_43 fk_X9_99 (by decide) rfl ?_
    refine V_iload_n X dX9_step_46 rfl ?_
    refine M_ialdN X dX9_step_47 (by decide) rfl (by omega) (by decide) ?_
    refine V_isub X dX9_step_48 ?_
    refine V_aload_n X dX9_step_49 rfl rfl ?_
    refine M_geta X dX9_step_50 fk_X9_102 (by decide) rfl ?_
    refine V_iload_n X dX9_step_53 rfl ?_
    refine M_ialdN X dX9_step_54 (by decide) rfl (by omega) (by decide) ?_
    have hint := hT.2.2.2.2.2.2 x (by rw [lp_k (st1_n (by decide)), sA_n (by decide)]; exact hlt)
    refine V_irem X dX9_step_55 (sm_ne0 hint.2.1 hint.1) ?_
    refine V_if_ne X dX9_step_56 64 (by decide) (fun c_56 => ?_) (fun c_56 => ?_)
    · refine V_iinc X dX9_step_64 rfl (by decide) rfl (nI (x + 1)) (nI_1 x) ?_
      refine V_goto X dX9_step_67 12 (by decide) ?_
      refine step_l1 hI X m (x + 1) (by omega) (by omega) |> fun k => ?_
      rw [lp, st1, if_neg c_26, if_neg c_35, if_neg c_56] at k
      exact k
    refine V_aload_n X dX9_step_59 rfl rfl ?_
    refine V_iload_n X dX9_step_60 rfl ?_
    apply V_callV1 X dX9_step_61 mk_X9_242 iv_X9_sample (c_sample l (by omega) (hT.2.1 x (by omega)) hint.2.2)
    · first | assumption | exact hu_s | exact (hu_n (by first | exact kd_nk (by decide) | exact kd_ni (by omega) | exact kd_ng (by omega) | assumption | exact Ne.symm (by assumption))).trans (by first | assumption | exact hu_s | exact (hu_n (by first | exact kd_nk (by decide) | exact kd_ni (by omega) | exact kd_ng (by omega) | assumption | exact Ne.symm (by assumption))).trans (by first | assumption | exact hu_s | exact (hu_n (by first | exact kd_nk (by decide) | exact kd_ni (by omega) | exact kd_ng (by omega) | assumption | exact Ne.symm (by assumption))).trans (by first | assumption | exact hu_s)))
    · exact rfl
    · exact Nat.le_of_ble_eq_true rfl
    · exact ⟨Nat.le_of_ble_eq_true rfl, Nat.le_of_ble_eq_true rfl⟩
    · exact ⟨by dsimp only [rmm]; omega, by dsimp only [rmm]; omega⟩
    rintro r I1 ⟨rfl, rfl⟩
    refine V_iinc X dX9_step_64 rfl (by decide) rfl (nI (x + 1)) (nI_1 x) ?_
    refine V_goto X dX9_step_67 12 (by decide) ?_
    refine step_l1 hI X m (x + 1) (by omega) (by omega) |> fun k => ?_
    rw [lp, st1, if_neg c_26, if_neg c_35, if_pos c_56] at k
    exact k
set_option maxRecDepth 100000 in
set_option maxHeartbeats 4000000 in
theorem c_step (l : Launch) {S : St} {J : aH} {c : Nat} (hI : Iv c S) : AM l yX9_step cX9_step 3 none (rmm 4 0 0 110) [.ref mO] (ovl S J) (fun r I' => r = none ∧ I' = ovl (stepS S) J) := by
  refine AM_of RX9 (by decide) rfl [some (.ref mO), none, none] rfl (Nat.le_of_ble_eq_true rfl) (fun Z X hNm => ?_)
  refine V_aload_n X dX9_step_0 rfl rfl ?_
  refine V_dup X dX9_step_1 rfl ?_
  refine M_geti X dX9_step_2 fk_X9_199 (by decide) rfl ?_
  refine V_iconst (v := 1) X dX9_step_5 (by decide) ?_
  refine V_iadd X dX9_step_6 ?_
  refine M_put X dX9_step_7 fk_X9_199 (by decide) rfl ?_
  refine V_iconst (v := 0) X dX9_step_10 (by decide) ?_
  refine V_istore_n X dX9_step_11 (by decide) rfl ?_
  exact step_l1 hI X (nn (S.1 32 0) + 1) 0 (by omega) (Nat.zero_le _)
def tkS (S : St) (n : Nat) : St := lp (fun _ T => stepS T) n S
def op_tick (S : St) (n : Int32) : St × Int32 := if 1 ≤ n ∧ n ≤ 1000 then (if S.1 0 0 + n ≤ 100000 then (tkS S (nn n), (tkS S (nn n)).1 48 0 - S.1 48 0) else rr S (-8)) else rr S (-7)
theorem Iv.tk {c : Nat} {S : St} (h : Iv c S) : ∀ n, Iv c (tkS S n)
  | 0 => h
  | n + 1 => (h.tk n).step
theorem rng_of {n : Int32} {a b : Nat} {x y : Int32} (hx : x = nI a) (hy : y = nI b) (ha : a < 2 ^ 31) (hb : b < 2 ^ 31) (h : x ≤ n ∧ n ≤ y) : ∃ j, a ≤ j ∧ j ≤ b ∧ n = nI j := by
  subst hx hy
  have h1 := (fa_le _ _).mp h.1
  have h2 := (fa_le _ _).mp h.2
  rw [nI_toInt ha] at h1
  rw [nI_toInt hb] at h2
  have hv : vp_in n (b + 1) := vp_in_iff.mpr ⟨by omega, by omega⟩
  have e : n.toInt = ((nn n : Nat) : Int) := i32_nn n (fun q => by rw [fa_lt, i0] at q; omega)
  refine ⟨nn n, by omega, by omega, ?_⟩
  exact (fa_eq _ _).mpr (by rw [nI_toInt (by omega)]; exact e)
set_option maxRecDepth 100000 in
set_option maxHeartbeats 4000000 in
theorem tick_loop {l : Launch} {Z : Zt} {S : St} {J : aH} {c : Nat} (hI : Iv c S) {n had : Int32} {N : Nat} (hN : N ≤ 1000) (en : n = nI N) (eo : op_tick S n = (tkS S N, (tkS S N).1 48 0 - had)) (X : Fx Z l (rmm 5 0 0 140) cX9_tick 4 RX9 (some .int) (fun r I' => r = some (.int (op_tick S n).2) ∧ I' = ovl (op_tick S n).1 J)) : ∀ (m x : Nat), N - x < m → x ≤ N → V Z 4 (ovl (tkS S x) J) [some (.ref mO), some (.int n), some (.int had), some (.int (nI x))] [] 0 0 45
  | 0, _, _, _ => absurd (by assumption) (Nat.not_lt_zero _)
  | m + 1, x, hm, hx => by
    refine V_iload_n X dX9_tick_45 rfl ?_
    refine V_iload_n X dX9_tick_46 rfl ?_
    rw [show V Z 4 (ovl (tkS S x) J) [some (.ref mO), some (.int n), some (.int had), some (.int (nI x))] [.int n, .int (nI x)] 0 0 (45 + 1 + 1) = V Z 4 (ovl (tkS S x) J) [some (.ref mO), some (.int n), some (.int had), some (.int (nI x))] [.int (nI N), .int (nI x)] 0 0 (45 + 1 + 1) from by rw [en]]
    refine V_icmp_ge X dX9_tick_47 60 (by decide) (fun c_47 => ?_) (fun c_47 => ?_)
    · have hx2 : x = N := by
        rcases Nat.lt_or_ge x (N) with z | z
        · exact absurd c_47 (nI_ge z (by omega))
        · omega
      refine V_aload_n X dX9_tick_60 rfl rfl ?_
      refine M_geti X dX9_tick_61 fk_X9_205 (by decide) rfl ?_
      refine V_iload_n X dX9_tick_64 rfl ?_
      refine V_isub X dX9_tick_65 ?_
      refine V_iret X dX9_tick_66 ?_ ?_ ?_ ?_
      · exact rfl
      · dsimp only [rmm]; omega
      · dsimp only [rmm]; omega
      exact ⟨by rw [eo, hx2], by rw [eo, hx2]⟩
    have hlt : x < N := by
      rcases Nat.lt_or_ge x (N) with z | z
      · exact z
      · exact absurd (nI_le z (by omega)) c_47
    refine V_aload_n X dX9_tick_50 rfl rfl ?_
    apply V_callV0 X dX9_tick_51 mk_X9_257 iv_X9_step (c_step l (hI.tk x))
    · first | assumption | exact hu_s | exact (hu_n (by first | exact kd_nk (by decide) | exact kd_ni (by omega) | exact kd_ng (by omega) | assumption | exact Ne.symm (by assumption))).trans (by first | assumption | exact hu_s | exact (hu_n (by first | exact kd_nk (by decide) | exact kd_ni (by omega) | exact kd_ng (by omega) | assumption | exact Ne.symm (by assumption))).trans (by first | assumption | exact hu_s | exact (hu_n (by first | exact kd_nk (by decide) | exact kd_ni (by omega) | exact kd_ng (by omega) | assumption | exact Ne.symm (by assumption))).trans (by first | assumption | exact hu_s)))
    · exact rfl
    · exact Nat.le_of_ble_eq_true rfl
    · exact ⟨Nat.le_of_ble_eq_true rfl, Nat.le_of_ble_eq_true rfl⟩
    · exact ⟨by dsimp only [rmm]; omega, by dsimp only [rmm]; omega⟩
    rintro r I1 ⟨rfl, rfl⟩
    refine V_iinc X dX9_tick_54 rfl (by decide) rfl (nI (x + 1)) (nI_1 x) ?_
    refine V_goto X dX9_tick_57 45 (by decide) ?_
    exact tick_loop hI hN en eo X m (x + 1) (by omega) (by omega)
set_option maxRecDepth 100000 in
set_option maxHeartbeats 4000000 in
theorem m_tick (l : Launch) {S : St} {J : aH} {c : Nat} (hI : Iv c S) {n : Int32} : AM l yX9_tick cX9_tick 4 (some .int) (rmm 5 0 0 140) [.ref mO, .int n] (ovl S J) (fun r I' => r = some (.int (op_tick S n).2) ∧ I' = ovl (op_tick S n).1 J) := by
  refine AM_of RX9 (by decide) rfl [some (.ref mO), some (.int n), none, none] rfl (Nat.le_of_ble_eq_true rfl) (fun Z X hNm => ?_)
  refine V_iload_n X dX9_tick_0 rfl ?_
  refine V_i2l X dX9_tick_1 ?_
  refine V_lconst (v := 1) X dX9_tick_2 (by decide) ?_
  refine V_ldc2 X dX9_tick_3 kc_X9_254 ?_
  refine V_callS3 X dX9_tick_6 mk_X9_171 st_X9_in (c_inI l (x := n) (lo := 1) (hi := 1000) rfl rfl) (Nat.le_of_ble_eq_true rfl) ⟨Nat.le_of_ble_eq_true rfl, Nat.le_of_ble_eq_true rfl⟩ ?_ ?_
  · exact ⟨by dsimp only [rmm]; omega, by dsimp only [rmm]; omega⟩
  rintro r I1 ⟨rfl, rfl⟩
  refine V_if_ne X dX9_tick_9 19 (by decide) (fun c_9 => ?_) (fun c_9 => ?_)
  · have h_9 := bz_t c_9
    obtain ⟨N, hN0, hN, en⟩ := rng_of (a := 1) (b := 1000) rfl rfl (by decide) (by decide) h_9
    refine V_aload_n X dX9_tick_19 rfl rfl ?_
    refine M_geti X dX9_tick_20 fk_X9_199 (by decide) rfl ?_
    refine V_iload_n X dX9_tick_23 rfl ?_
    refine V_iadd X dX9_tick_24 ?_
    refine V_ldcw X dX9_tick_25 kc_X9_256 ?_
    refine V_icmp_le X dX9_tick_28 38 (by decide) (fun c_28 => ?_) (fun c_28 => ?_)
    · refine V_aload_n X dX9_tick_38 rfl rfl ?_
      refine M_geti X dX9_tick_39 fk_X9_205 (by decide) rfl ?_
      refine V_istore_n X dX9_tick_42 (by decide) rfl ?_
      refine V_iconst (v := 0) X dX9_tick_43 (by decide) ?_
      refine V_istore_n X dX9_tick_44 (by decide) rfl ?_
      exact tick_loop hI hN en (by rw [op_tick, if_pos h_9, if_pos c_28, en, nnI (by omega)]) X (N + 1) 0 (by omega) (Nat.zero_le _)
    refine V_aload_n X dX9_tick_31 rfl rfl ?_
    refine V_bipush (v := (-8)) X dX9_tick_32 (by decide) ?_
    apply V_callV1 X dX9_tick_34 mk_X9_175 iv_X9_refuse (c_refuse9 l (x := -8) (by unfold vp_in; decide))
    · first | assumption | exact hu_s | exact (hu_n (by first | exact kd_nk (by decide) | exact kd_ni (by omega) | exact kd_ng (by omega) | assumption | exact Ne.symm (by assumption))).trans (by first | assumption | exact hu_s | exact (hu_n (by first | exact kd_nk (by decide) | exact kd_ni (by omega) | exact kd_ng (by omega) | assumption | exact Ne.symm (by assumption))).trans (by first | assumption | exact hu_s | exact (hu_n (by first | exact kd_nk (by decide) | exact kd_ni (by omega) | exact kd_ng (by omega) | assumption | exact Ne.symm (by assumption))).trans (by first | assumption | exact hu_s)))
    · exact rfl
    · exact Nat.le_of_ble_eq_true rfl
    · exact ⟨Nat.le_of_ble_eq_true rfl, Nat.le_of_ble_eq_true rfl⟩
    · exact ⟨by dsimp only [rmm]; omega, by dsimp only [rmm]; omega⟩
    rintro r I1 ⟨rfl, rfl⟩
    refine V_iret X dX9_tick_37 ?_ ?_ ?_ ?_
    · exact rfl
    · dsimp only [rmm]; omega
    · dsimp only [rmm]; omega
    refine ⟨?_, ?_⟩ <;> rw [op_tick, if_pos h_9, if_neg c_28]
  have h_9 := bz_f c_9
  refine V_aload_n X dX9_tick_12 rfl rfl ?_
  refine V_bipush (v := (-7)) X dX9_tick_13 (by decide) ?_
  apply V_callV1 X dX9_tick_15 mk_X9_175 iv_X9_refuse (c_refuse9 l (x := -7) (by unfold vp_in; decide))
  · first | assumption | exact hu_s | exact (hu_n (by first | exact kd_nk (by decide) | exact kd_ni (by omega) | exact kd_ng (by omega) | assumption | exact Ne.symm (by assumption))).trans (by first | assumption | exact hu_s | exact (hu_n (by first | exact kd_nk (by decide) | exact kd_ni (by omega) | exact kd_ng (by omega) | assumption | exact Ne.symm (by assumption))).trans (by first | assumption | exact hu_s | exact (hu_n (by first | exact kd_nk (by decide) | exact kd_ni (by omega) | exact kd_ng (by omega) | assumption | exact Ne.symm (by assumption))).trans (by first | assumption | exact hu_s)))
  · exact rfl
  · exact Nat.le_of_ble_eq_true rfl
  · exact ⟨Nat.le_of_ble_eq_true rfl, Nat.le_of_ble_eq_true rfl⟩
  · exact ⟨by dsimp only [rmm]; omega, by dsimp only [rmm]; omega⟩
  rintro r I1 ⟨rfl, rfl⟩
  refine V_iret X dX9_tick_18 ?_ ?_ ?_ ?_
  · exact rfl
  · dsimp only [rmm]; omega
  · dsimp only [rmm]; omega
  refine ⟨?_, ?_⟩ <;> rw [op_tick, if_neg h_9]
