/-! making a message -/
theorem nnI {n : Nat} (h : n < 2 ^ 31) : nn (nI n) = n := nI_clamp h
def mailN (S : St) (a M : Nat) : St := let S1 := pa S 14 (1200 * a + nn (S.1 13 a)) (nI M); pa S1 13 a (S1.1 13 a + 1)
theorem mail_eq {S : St} {a M : Nat} (ha : a < 12) (h : sm (S.1 13 a) 600) : mailS S (nI a) (nI M) = mailN S a M ∧ vp_in (1200 * nI a + S.1 13 (nn (nI a))) 14400 := by
  have e : (1200 : Int32) * nI a + S.1 13 a = nI (1200 * a + nn (S.1 13 a)) := by
    rw [show (1200 : Int32) = nI 1200 from rfl, pk_mul, add_nn h.1]
  have hb := h.2
  rw [nnI (by omega), e]
  refine ⟨?_, vp_in_nI2 (by omega) (by omega)⟩
  unfold mailS mailN
  rw [nnI (by omega), e, nnI (by omega)]
set_option maxRecDepth 100000 in
set_option maxHeartbeats 4000000 in
theorem c_toMailN (l : Launch) {S : St} {J : aH} {a M : Nat} (ha : a < 12) (h : sm (S.1 13 a) 600) : AM l yX9_toMail cX9_toMail 3 none (rmm 0 0 0 0) [.ref mO, .int (nI a), .int (nI M)] (ovl S J) (fun r I' => r = none ∧ I' = ovl (mailN S a M) J) := by
  have e := mail_eq (S := S) (M := M) ha h
  have c := c_toMail l (S := S) (J := J) (s := nI a) (m := nI M) (vp_in_nI2 ha (by omega)) e.2
  rw [e.1] at c
  exact c
def mkA (S : St) (b M : Nat) : St := let S1 := pa S 48 0 (nI (M + 1)); let S2 := pa S1 49 M (nI b); let S3 := pa S2 50 M (S2.1 24 b); pa S3 53 M (S3.1 0 0)
def mkB (S : St) (b : Nat) : St := pa S 24 b (S.1 24 b + 1)
def bdS (S : St) (b : Nat) : Int32 := if S.1 22 b = 0 then 40 else S.1 22 b
def mv1 (T : St) (M i n : Nat) : St := let A := pb T 55 (40 * M + n) (T.2 45 (8 * i)); let B := pa A 56 (40 * M + n) (nI i); let C := pa B 57 (40 * M + n) (B.1 46 (8 * i)); let D := pa C 58 (40 * M + n) (C.1 47 (8 * i)); shiftS D i
def mvW (b B M i : Nat) : Nat → St × Nat → St × Nat
  | 0, q => q
  | f + 1, q => if itP q.1 (nI b) i ∧ q.2 < B then mvW b B M i f (mv1 q.1 M i q.2, q.2 + 1) else q
def mkT (F : St) (b M a : Nat) : St := let G := pa F 31 b (F.1 52 M); let H := mailN G a M; let K := pa H 12 a (H.1 12 a - 1); let L := pa K 27 b 1; let M1 := pa L 25 b (L.1 20 b); let N1 := pa M1 26 b (M1.1 21 b); pa N1 28 b 0
def fstK (S : St) (s : Int32) : Nat → Nat
  | 0 => 0
  | n + 1 => if fstK S s n < n then fstK S s n else if kpP S s n then n else n + 1
def mkK (S : St) (b : Nat) : St := if nI (kpA S (nI b)) = 5 then pa S 54 (fstK S (nI b) (nn (S.1 48 0))) 0 else S
def mkE (C : St) (b M n : Nat) : St := let E := pa (pa C 54 M 1) 51 M (nI n); pa E 52 M (if lft E (nI b) then 1 else 0)
def mkQ (S : St) (b M N : Nat) : St × Nat := lpq (fun i q => mvW b (nn (bdS (mkB (mkA S b M) b) b)) M i 9 q) N (mkB (mkA S b M) b, 0)
def mkR (S : St) (b M N a : Nat) : St := mkT (mkE (mkK (mkQ S b M N).1 b) b M (mkQ S b M N).2) b M a
def mkN (S : St) (b M a : Nat) : St := mkT (pa (pa (mkA S b M) 51 M 0) 52 M 0) b M a
def makeS (S : St) (b : Nat) : St := if rdy S (nI b) then mkR S b (nn (S.1 48 0)) (nn (S.1 32 0)) (nn (S.1 17 b)) else mkN S b (nn (S.1 48 0)) (nn (S.1 17 b))
theorem mv1_k {T : St} {M i n k j : Nat} (h : k ≠ 44 ∧ k ≠ 46 ∧ k ≠ 47 ∧ k ≠ 56 ∧ k ≠ 57 ∧ k ≠ 58) : (mv1 T M i n).1 k j = T.1 k j := by
  unfold mv1
  dsimp only
  rw [shiftS_k ⟨h.1, h.2.1, h.2.2.1⟩, pa_n _ _ h.2.2.2.2.2, pa_n _ _ h.2.2.2.2.1, pa_n _ _ h.2.2.2.1]
  rfl
theorem mv1_q {T : St} {M i n : Nat} : (mv1 T M i n).1 44 i = T.1 44 i - 1 := by
  unfold mv1
  dsimp only
  rw [shiftS_q]
  simp [pa_1, pb_1]
theorem mv1_n {T : St} {M i n j : Nat} (h : j ≠ i) : (mv1 T M i n).1 44 j = T.1 44 j := by
  unfold mv1
  dsimp only
  rw [shiftS_n h]
  simp [pa_1, pb_1]
theorem sm_pos {x : Int32} {b : Nat} (h : sm x b) (hx : ¬ x ≤ 0) (hb : b < 2 ^ 31) : 1 ≤ nn x := by
  rcases Nat.eq_zero_or_pos (nn x) with q | q
  · exact absurd (by rw [h.1, q]; decide) hx
  · exact q
theorem sm_dec {x : Int32} {b : Nat} (h : sm x b) (hx : 1 ≤ nn x) (hb : b < 2 ^ 31) : x - 1 = nI (nn x - 1) ∧ sm (x - 1) b ∧ nn (x - 1) = nn x - 1 := by
  have h2 := h.2
  have e : x - 1 = nI (nn x - 1) := by
    have e1 : nI (nn x) - nI 1 = nI (nn x - 1) := pk_sub hx
    rw [← h.1] at e1
    exact e1
  exact ⟨e, sm_of e (by omega) hb, by rw [e]; exact nnI (by omega)⟩
theorem mvW_k {b B M i k j : Nat} (h : k ≠ 44 ∧ k ≠ 46 ∧ k ≠ 47 ∧ k ≠ 56 ∧ k ≠ 57 ∧ k ≠ 58) : ∀ (f : Nat) (q : St × Nat), (mvW b B M i f q).1.1 k j = q.1.1 k j
  | 0, _ => rfl
  | f + 1, q => by
    rw [mvW]
    split
    · exact (mvW_k h f _).trans (mv1_k h)
    · rfl
theorem mvW_q {b B M i : Nat} : ∀ (f : Nat) (q : St × Nat), (∀ j, j < 60 → sm (q.1.1 44 j) 8) → ∀ j, j < 60 → sm ((mvW b B M i f q).1.1 44 j) 8 ∧ nn ((mvW b B M i f q).1.1 44 j) ≤ nn (q.1.1 44 j)
  | 0, q, h, j, hj => ⟨h j hj, Nat.le_refl _⟩
  | f + 1, q, h, j, hj => by
    rw [mvW]
    split
    · rename_i hc
      have hh : ∀ j, j < 60 → sm ((mv1 q.1 M i q.2).1 44 j) 8 ∧ nn ((mv1 q.1 M i q.2).1 44 j) ≤ nn (q.1.1 44 j) := by
        intro j hj
        by_cases e : j = i
        · subst e
          rw [mv1_q]
          have := sm_dec (h j hj) (sm_pos (h j hj) hc.1.2.2.2 (by decide)) (by decide)
          exact ⟨this.2.1, by omega⟩
        · rw [mv1_n e]
          exact ⟨h j hj, Nat.le_refl _⟩
      have ih := mvW_q (b := b) (B := B) (M := M) (i := i) f (mv1 q.1 M i q.2, q.2 + 1) (fun j hj => (hh j hj).1) j hj
      exact ⟨ih.1, Nat.le_trans ih.2 (hh j hj).2⟩
    · exact ⟨h j hj, Nat.le_refl _⟩
theorem mvW_n {b B M i : Nat} : ∀ (f : Nat) (q : St × Nat), q.2 ≤ B → (mvW b B M i f q).2 ≤ B
  | 0, _, h => h
  | f + 1, q, h => by
    rw [mvW]
    split
    · rename_i hc
      exact mvW_n f _ hc.2
    · exact h
theorem lpm_k {b B M k j : Nat} (h : k ≠ 44 ∧ k ≠ 46 ∧ k ≠ 47 ∧ k ≠ 56 ∧ k ≠ 57 ∧ k ≠ 58) : ∀ (x : Nat) (q : St × Nat), (lpq (fun i q => mvW b B M i 9 q) x q).1.1 k j = q.1.1 k j
  | 0, _ => rfl
  | x + 1, q => (mvW_k h 9 _).trans (lpm_k h x q)
theorem lpm_q {b B M : Nat} : ∀ (x : Nat) (q : St × Nat), (∀ j, j < 60 → sm (q.1.1 44 j) 8) → ∀ j, j < 60 → sm ((lpq (fun i q => mvW b B M i 9 q) x q).1.1 44 j) 8 ∧ nn ((lpq (fun i q => mvW b B M i 9 q) x q).1.1 44 j) ≤ nn (q.1.1 44 j)
  | 0, q, h, j, hj => ⟨h j hj, Nat.le_refl _⟩
  | x + 1, q, h, j, hj => by
    have ih := lpm_q (b := b) (B := B) (M := M) x q h
    have := mvW_q (b := b) (B := B) (M := M) (i := x) 9 _ (fun j hj => (ih j hj).1) j hj
    exact ⟨this.1, Nat.le_trans this.2 (ih j hj).2⟩
theorem lpm_n {b B M : Nat} : ∀ (x : Nat) (q : St × Nat), q.2 ≤ B → (lpq (fun i q => mvW b B M i 9 q) x q).2 ≤ B
  | 0, _, h => h
  | x + 1, q, h => mvW_n 9 _ (lpm_n x q h)
set_option maxRecDepth 100000 in
set_option maxHeartbeats 4000000 in
theorem make_tail {l : Launch} {Z : Zt} {S F : St} {J : aH} {b M a : Nat} {o3 o4 o5 o6 o7 : Option Value} (X : Fx Z l (rmm 1 0 0 30) cX9_make 8 RX9 none (fun r I' => r = none ∧ I' = ovl (makeS S b) J)) (hb : b < 20) (hM : M < 900) (ha : a < 12) (e17 : F.1 17 b = nI a) (h52 : vp_nar .boolean (F.1 52 M) = F.1 52 M) (h13 : sm (F.1 13 a) 600) (e : makeS S b = mkT F b M a) : V Z 8 (ovl F J) [some (.ref mO), some (.int (nI b)), some (.int (nI M)), o3, o4, o5, o6, o7] [] 0 0 322 := by
  refine V_aload_n X dX9_make_322 rfl rfl ?_
  refine M_geta X dX9_make_323 fk_X9_87 (by decide) rfl ?_
  refine V_iload_n X dX9_make_326 rfl ?_
  refine V_aload_n X dX9_make_327 rfl rfl ?_
  refine M_geta X dX9_make_328 fk_X9_144 (by decide) rfl ?_
  refine V_iload_n X dX9_make_331 rfl ?_
  refine M_zaldN X dX9_make_332 (by decide) rfl (by omega) (by decide) ?_
  refine M_zastN X dX9_make_333 (by decide) rfl (by omega) (by decide) (h52) ?_
  refine V_aload_n X dX9_make_334 rfl rfl ?_
  refine V_aload_n X dX9_make_335 rfl rfl ?_
  refine M_geta X dX9_make_336 fk_X9_48 (by decide) rfl ?_
  refine V_iload_n X dX9_make_339 rfl ?_
  refine M_ialdE (nI a) X dX9_make_340 (by decide) rfl (by omega) (by decide) (by simp [pa_1]; exact e17) ?_
  refine V_iload_n X dX9_make_341 rfl ?_
  apply V_callV2 X dX9_make_342 mk_X9_217 iv_X9_toMail (c_toMailN l ha (by simp [pa_1]; exact h13))
  · first | assumption | exact hu_s | exact (hu_n (by first | exact kd_nk (by decide) | exact kd_ni (by omega) | exact kd_ng (by omega) | assumption | exact Ne.symm (by assumption))).trans (by first | assumption | exact hu_s | exact (hu_n (by first | exact kd_nk (by decide) | exact kd_ni (by omega) | exact kd_ng (by omega) | assumption | exact Ne.symm (by assumption))).trans (by first | assumption | exact hu_s | exact (hu_n (by first | exact kd_nk (by decide) | exact kd_ni (by omega) | exact kd_ng (by omega) | assumption | exact Ne.symm (by assumption))).trans (by first | assumption | exact hu_s)))
  · exact rfl
  · exact Nat.le_of_ble_eq_true rfl
  · exact ⟨Nat.le_of_ble_eq_true rfl, Nat.le_of_ble_eq_true rfl⟩
  · exact ⟨by dsimp only [rmm]; omega, by dsimp only [rmm]; omega⟩
  rintro r I1 ⟨rfl, rfl⟩
  refine V_aload_n X dX9_make_345 rfl rfl ?_
  refine M_geta X dX9_make_346 fk_X9_35 (by decide) rfl ?_
  refine V_aload_n X dX9_make_349 rfl rfl ?_
  refine M_geta X dX9_make_350 fk_X9_48 (by decide) rfl ?_
  refine V_iload_n X dX9_make_353 rfl ?_
  refine M_ialdE (nI a) X dX9_make_354 (by decide) rfl (by omega) (by decide) (by simp [mailN, pa_1]; exact e17) ?_
  refine V_dup2 X dX9_make_355 rfl rfl ?_
  refine M_ialdN X dX9_make_356 (by decide) rfl (by omega) (by decide) ?_
  refine V_iconst (v := 1) X dX9_make_357 (by decide) ?_
  refine V_isub X dX9_make_358 ?_
  refine M_iastN X dX9_make_359 (by decide) rfl (by omega) (by decide) ?_
  refine V_aload_n X dX9_make_360 rfl rfl ?_
  refine M_geta X dX9_make_361 fk_X9_78 (by decide) rfl ?_
  refine V_iload_n X dX9_make_364 rfl ?_
  refine V_iconst (v := 1) X dX9_make_365 (by decide) ?_
  refine M_zastN X dX9_make_366 (by decide) rfl (by omega) (by decide) (rfl) ?_
  refine V_aload_n X dX9_make_367 rfl rfl ?_
  refine M_geta X dX9_make_368 fk_X9_72 (by decide) rfl ?_
  refine V_iload_n X dX9_make_371 rfl ?_
  refine V_aload_n X dX9_make_372 rfl rfl ?_
  refine M_geta X dX9_make_373 fk_X9_57 (by decide) rfl ?_
  refine V_iload_n X dX9_make_376 rfl ?_
  refine M_ialdN X dX9_make_377 (by decide) rfl (by omega) (by decide) ?_
  refine M_iastN X dX9_make_378 (by decide) rfl (by omega) (by decide) ?_
  refine V_aload_n X dX9_make_379 rfl rfl ?_
  refine M_geta X dX9_make_380 fk_X9_75 (by decide) rfl ?_
  refine V_iload_n X dX9_make_383 rfl ?_
  refine V_aload_n X dX9_make_384 rfl rfl ?_
  refine M_geta X dX9_make_385 fk_X9_60 (by decide) rfl ?_
  refine V_iload_n X dX9_make_388 rfl ?_
  refine M_ialdN X dX9_make_389 (by decide) rfl (by omega) (by decide) ?_
  refine M_iastN X dX9_make_390 (by decide) rfl (by omega) (by decide) ?_
  refine V_aload_n X dX9_make_391 rfl rfl ?_
  refine M_geta X dX9_make_392 fk_X9_81 (by decide) rfl ?_
  refine V_iload_n X dX9_make_395 rfl ?_
  refine V_iconst (v := 0) X dX9_make_396 (by decide) ?_
  refine M_zastN X dX9_make_397 (by decide) rfl (by omega) (by decide) (rfl) ?_
  refine V_vret X dX9_make_398 ?_ ?_ ?_
  · dsimp only [rmm]; omega
  · dsimp only [rmm]; omega
  exact ⟨rfl, by rw [e]; rfl⟩
set_option maxRecDepth 100000 in
set_option maxHeartbeats 4000000 in
theorem make_while {l : Launch} {Z : Zt} {S : St} {J : aH} {b M B i : Nat} {r3 : Int32} (X : Fx Z l (rmm 1 0 0 30) cX9_make 8 RX9 none (fun r I' => r = none ∧ I' = ovl (makeS S b) J)) (hb : b < 20) (hM : M < 900) (hB : B ≤ 40) (hi : i < 60) : ∀ (f : Nat) (T : St) (n : Nat) (o7 : Option Value), nn (T.1 44 i) < f → sm (T.1 44 i) 8 → n ≤ B → (∀ o7, V Z 8 (ovl (mvW b B M i f (T, n)).1 J) [some (.ref mO), some (.int (nI b)), some (.int (nI M)), some (.int r3), some (.int (nI (mvW b B M i f (T, n)).2)), some (.int (nI B)), some (.int (nI i)), o7] [] 0 0 231) → V Z 8 (ovl T J) [some (.ref mO), some (.int (nI b)), some (.int (nI M)), some (.int r3), some (.int (nI n)), some (.int (nI B)), some (.int (nI i)), o7] [] 0 0 101
  | 0, _, _, _, h, _, _, _ => absurd h (Nat.not_lt_zero _)
  | f + 1, T, n, o7, hf, hq, hn, kk => by
    refine V_aload_n X dX9_make_101 rfl rfl ?_
    refine M_geta X dX9_make_102 fk_X9_90 (by decide) rfl ?_
    refine V_iload X dX9_make_105 rfl ?_
    refine M_zaldN X dX9_make_107 (by decide) rfl (by omega) (by decide) ?_
    refine V_if_eq X dX9_make_108 231 (by decide) (fun c_108 => ?_) (fun c_108 => ?_)
    · rw [mvW, if_neg (fun q => q.1.1 c_108)] at kk
      exact kk _
    refine V_aload_n X dX9_make_111 rfl rfl ?_
    refine M_geta X dX9_make_112 fk_X9_93 (by decide) rfl ?_
    refine V_iload X dX9_make_115 rfl ?_
    refine M_ialdN X dX9_make_117 (by decide) rfl (by omega) (by decide) ?_
    refine V_iload_n X dX9_make_118 rfl ?_
    refine V_icmp_ne X dX9_make_119 231 (by decide) (fun c_119 => ?_) (fun c_119 => ?_)
    · rw [mvW, if_neg (fun q => c_119 q.1.2.1)] at kk
      exact kk _
    refine V_aload_n X dX9_make_122 rfl rfl ?_
    refine M_geta X dX9_make_123 fk_X9_111 (by decide) rfl ?_
    refine V_iload X dX9_make_126 rfl ?_
    refine M_ialdN X dX9_make_128 (by decide) rfl (by omega) (by decide) ?_
    refine V_iconst (v := 2) X dX9_make_129 (by decide) ?_
    refine V_icmp_ne X dX9_make_130 231 (by decide) (fun c_130 => ?_) (fun c_130 => ?_)
    · rw [mvW, if_neg (fun q => c_130 q.1.2.2.1)] at kk
      exact kk _
    refine V_aload_n X dX9_make_133 rfl rfl ?_
    refine M_geta X dX9_make_134 fk_X9_123 (by decide) rfl ?_
    refine V_iload X dX9_make_137 rfl ?_
    refine M_ialdN X dX9_make_139 (by decide) rfl (by omega) (by decide) ?_
    refine V_if_le X dX9_make_140 231 (by decide) (fun c_140 => ?_) (fun c_140 => ?_)
    · rw [mvW, if_neg (fun q => q.1.2.2.2 c_140)] at kk
      exact kk _
    refine V_iload X dX9_make_143 rfl ?_
    refine V_iload X dX9_make_145 rfl ?_
    refine V_icmp_ge X dX9_make_147 231 (by decide) (fun c_147 => ?_) (fun c_147 => ?_)
    · rw [mvW, if_neg (fun q => nI_ge q.2 (by omega) c_147)] at kk
      exact kk _
    have hlt : n < B := by
      rcases Nat.lt_or_ge n B with z | z
      · exact z
      · exact absurd (nI_le z (by omega)) c_147
    refine V_bipush (v := 40) X dX9_make_150 (by decide) ?_
    refine V_iload_n X dX9_make_152 rfl ?_
    refine V_imul X dX9_make_153 ?_
    rw [show (40 : Int32) = nI 40 from rfl, pk_mul]
    refine V_iload X dX9_make_154 rfl ?_
    refine V_iadd X dX9_make_156 ?_
    rw [nI_add]
    refine V_istore X dX9_make_157 (by decide) rfl ?_
    refine V_aload_n X dX9_make_159 rfl rfl ?_
    refine M_geta X dX9_make_160 fk_X9_154 (by decide) rfl ?_
    refine V_iload X dX9_make_163 rfl ?_
    refine V_aload_n X dX9_make_165 rfl rfl ?_
    refine M_geta X dX9_make_166 fk_X9_126 (by decide) rfl ?_
    refine V_bipush (v := 8) X dX9_make_169 (by decide) ?_
    refine V_iload X dX9_make_171 rfl ?_
    refine V_imul X dX9_make_173 ?_
    rw [show (8 : Int32) = nI 8 from rfl, pk_mul]
    refine M_laldN X dX9_make_174 (by decide) rfl (by omega) (by decide) ?_
    refine M_lastN X dX9_make_175 (by decide) rfl (by omega) (by decide) ?_
    refine V_aload_n X dX9_make_176 rfl rfl ?_
    refine M_geta X dX9_make_177 fk_X9_157 (by decide) rfl ?_
    refine V_iload X dX9_make_180 rfl ?_
    refine V_iload X dX9_make_182 rfl ?_
    refine M_iastN X dX9_make_184 (by decide) rfl (by omega) (by decide) ?_
    refine V_aload_n X dX9_make_185 rfl rfl ?_
    refine M_geta X dX9_make_186 fk_X9_160 (by decide) rfl ?_
    refine V_iload X dX9_make_189 rfl ?_
    refine V_aload_n X dX9_make_191 rfl rfl ?_
    refine M_geta X dX9_make_192 fk_X9_129 (by decide) rfl ?_
    refine V_bipush (v := 8) X dX9_make_195 (by decide) ?_
    refine V_iload X dX9_make_197 rfl ?_
    refine V_imul X dX9_make_199 ?_
    rw [show (8 : Int32) = nI 8 from rfl, pk_mul]
    refine M_ialdN X dX9_make_200 (by decide) rfl (by omega) (by decide) ?_
    refine M_iastN X dX9_make_201 (by decide) rfl (by omega) (by decide) ?_
    refine V_aload_n X dX9_make_202 rfl rfl ?_
    refine M_geta X dX9_make_203 fk_X9_163 (by decide) rfl ?_
    refine V_iload X dX9_make_206 rfl ?_
    refine V_aload_n X dX9_make_208 rfl rfl ?_
    refine M_geta X dX9_make_209 fk_X9_132 (by decide) rfl ?_
    refine V_bipush (v := 8) X dX9_make_212 (by decide) ?_
    refine V_iload X dX9_make_214 rfl ?_
    refine V_imul X dX9_make_216 ?_
    rw [show (8 : Int32) = nI 8 from rfl, pk_mul]
    refine M_ialdN X dX9_make_217 (by decide) rfl (by omega) (by decide) ?_
    refine M_iastN X dX9_make_218 (by decide) rfl (by omega) (by decide) ?_
    refine V_aload_n X dX9_make_219 rfl rfl ?_
    refine V_iload X dX9_make_220 rfl ?_
    apply V_callV1 X dX9_make_222 mk_X9_195 iv_X9_shift (c_shift l (q := nn (T.1 44 i) - 1) hi (by have := hq.2; omega) (by have hp := sm_pos hq c_140 (by decide); rw [show nn (T.1 44 i) - 1 + 1 = nn (T.1 44 i) by omega]; simp [pa_1, pb_1]; exact hq.1))
    · first | assumption | exact hu_s | exact (hu_n (by first | exact kd_nk (by decide) | exact kd_ni (by omega) | exact kd_ng (by omega) | assumption | exact Ne.symm (by assumption))).trans (by first | assumption | exact hu_s | exact (hu_n (by first | exact kd_nk (by decide) | exact kd_ni (by omega) | exact kd_ng (by omega) | assumption | exact Ne.symm (by assumption))).trans (by first | assumption | exact hu_s | exact (hu_n (by first | exact kd_nk (by decide) | exact kd_ni (by omega) | exact kd_ng (by omega) | assumption | exact Ne.symm (by assumption))).trans (by first | assumption | exact hu_s)))
    · exact rfl
    · exact Nat.le_of_ble_eq_true rfl
    · exact ⟨Nat.le_of_ble_eq_true rfl, Nat.le_of_ble_eq_true rfl⟩
    · exact ⟨by dsimp only [rmm]; omega, by dsimp only [rmm]; omega⟩
    rintro r I1 ⟨rfl, rfl⟩
    refine V_iinc X dX9_make_225 rfl (by decide) rfl (nI (n + 1)) (nI_1 n) ?_
    refine V_goto X dX9_make_228 101 (by decide) ?_
    have hc : itP T (nI b) i ∧ n < B := ⟨⟨c_108, c_119, c_130, c_140⟩, hlt⟩
    have hp := sm_pos hq c_140 (by decide)
    have hd := sm_dec hq hp (by decide)
    rw [mvW, if_pos hc] at kk
    refine make_while X hb hM hB hi f _ (n + 1) _ ?_ ?_ (by omega) kk
    · show nn ((mv1 T M i n).1 44 i) < f
      rw [mv1_q, hd.2.2]
      omega
    · show sm ((mv1 T M i n).1 44 i) 8
      rw [mv1_q]
      exact hd.2.1
set_option maxRecDepth 100000 in
set_option maxHeartbeats 4000000 in
theorem make_for {l : Launch} {Z : Zt} {S : St} {J : aH} {b M B N : Nat} {r3 : Int32} {q0 : St × Nat} (X : Fx Z l (rmm 1 0 0 30) cX9_make 8 RX9 none (fun r I' => r = none ∧ I' = ovl (makeS S b) J)) (hb : b < 20) (hM : M < 900) (hB : B ≤ 40) (hN : N ≤ 60) (e32 : q0.1.1 32 0 = nI N) (hq0 : ∀ j, j < 60 → sm (q0.1.1 44 j) 8) (hn0 : q0.2 ≤ B) (kk : ∀ o7, V Z 8 (ovl (lpq (fun i q => mvW b B M i 9 q) N q0).1 J) [some (.ref mO), some (.int (nI b)), some (.int (nI M)), some (.int r3), some (.int (nI (lpq (fun i q => mvW b B M i 9 q) N q0).2)), some (.int (nI B)), some (.int (nI N)), o7] [] 0 0 237) : ∀ (m x : Nat) (o7 : Option Value), N - x < m → x ≤ N → V Z 8 (ovl (lpq (fun i q => mvW b B M i 9 q) x q0).1 J) [some (.ref mO), some (.int (nI b)), some (.int (nI M)), some (.int r3), some (.int (nI (lpq (fun i q => mvW b B M i 9 q) x q0).2)), some (.int (nI B)), some (.int (nI x)), o7] [] 0 0 92
  | 0, _, _, h, _ => absurd h (Nat.not_lt_zero _)
  | m + 1, x, o7, hm, hx => by
    have e32b : (lpq (fun i q => mvW b B M i 9 q) x q0).1.1 32 0 = nI N := (lpm_k (by decide) x q0).trans e32
    refine V_iload X dX9_make_92 rfl ?_
    refine V_aload_n X dX9_make_94 rfl rfl ?_
    refine M_getiE (nI N) X dX9_make_95 fk_X9_202 (by decide) rfl (e32b) ?_
    refine V_icmp_ge X dX9_make_98 237 (by decide) (fun c_98 => ?_) (fun c_98 => ?_)
    · have hx2 : x = N := by
        rcases Nat.lt_or_ge x N with z | z
        · exact absurd c_98 (nI_ge z (by omega))
        · omega
      subst hx2
      exact kk _
    have hlt : x < N := by
      rcases Nat.lt_or_ge x N with z | z
      · exact z
      · exact absurd (nI_le z (by omega)) c_98
    have hs := (lpm_q (b := b) (B := B) (M := M) x q0 hq0 x (by omega)).1
    refine make_while X hb hM hB (by omega) 9 _ _ _ (by have := hs.2; omega) hs (lpm_n x q0 hn0) (fun o7 => ?_)
    refine V_iinc X dX9_make_231 rfl (by decide) rfl (nI (x + 1)) (nI_1 x) ?_
    refine V_goto X dX9_make_234 92 (by decide) ?_
    exact make_for X hb hM hB hN e32 hq0 hn0 kk m (x + 1) _ (by omega) (by omega)
theorem fstK_spec {S : St} {s : Int32} : ∀ n, fstK S s n ≤ n ∧ (∀ j, j < fstK S s n → ¬ kpP S s j) ∧ (fstK S s n < n → kpP S s (fstK S s n)) ∧ (kpN S s n ≠ 0 → fstK S s n < n)
  | 0 => ⟨Nat.le_refl _, fun j h => absurd h (Nat.not_lt_zero _), fun h => absurd h (Nat.not_lt_zero _), fun h => absurd rfl h⟩
  | n + 1 => by
    obtain ⟨h1, h2, h3, h4⟩ := fstK_spec (S := S) (s := s) n
    rw [fstK]
    by_cases c1 : fstK S s n < n
    · rw [if_pos c1]
      exact ⟨by omega, h2, fun _ => h3 c1, fun _ => by omega⟩
    · rw [if_neg c1]
      have e : fstK S s n = n := by omega
      have hk : kpN S s n = 0 := by
        rcases Nat.eq_zero_or_pos (kpN S s n) with q | q
        · exact q
        · exact absurd (h4 (by omega)) c1
      by_cases c2 : kpP S s n
      · rw [if_pos c2]
        exact ⟨by omega, fun j hj => h2 j (by omega), fun _ => c2, fun _ => by omega⟩
      · rw [if_neg c2]
        refine ⟨by omega, fun j hj => ?_, fun h => by omega, fun h => absurd (by rw [kpN_f c2]; exact hk) h⟩
        by_cases hjn : j = n
        · rw [hjn]; exact c2
        · exact h2 j (by omega)
set_option maxRecDepth 100000 in
set_option maxHeartbeats 4000000 in
theorem make_first {l : Launch} {Z : Zt} {S T : St} {J : aH} {b M t : Nat} {o3 o4 o7 : Option Value} {r5 : Int32} (X : Fx Z l (rmm 1 0 0 30) cX9_make 8 RX9 none (fun r I' => r = none ∧ I' = ovl (makeS S b) J)) (ht : t < 900) (h1 : ∀ j, j < t → ¬ kpP T (nI b) j) (h2 : kpP T (nI b) t) (kk : V Z 8 (ovl T J) [some (.ref mO), some (.int (nI b)), some (.int (nI M)), o3, o4, some (.int r5), some (.int (nI t)), o7] [] 0 0 276) : ∀ (m x : Nat), t - x < m → x ≤ t → V Z 8 (ovl T J) [some (.ref mO), some (.int (nI b)), some (.int (nI M)), o3, o4, some (.int r5), some (.int (nI x)), o7] [] 0 0 249
  | 0, _, h, _ => absurd h (Nat.not_lt_zero _)
  | m + 1, x, hm, hx => by
    refine V_aload_n X dX9_make_249 rfl rfl ?_
    refine M_geta X dX9_make_250 fk_X9_150 (by decide) rfl ?_
    refine V_iload X dX9_make_253 rfl ?_
    refine M_zaldN X dX9_make_255 (by decide) rfl (by omega) (by decide) ?_
    refine V_if_eq X dX9_make_256 270 (by decide) (fun c_256 => ?_) (fun c_256 => ?_)
    · have hlt : x < t := by
        rcases Nat.lt_or_ge x t with z | z
        · exact z
        · exact absurd (show kpP T (nI b) x from (show t = x by omega) ▸ h2) (fun q => q.1 c_256)
      refine V_iinc X dX9_make_270 rfl (by decide) rfl (nI (x + 1)) (nI_1 x) ?_
      refine V_goto X dX9_make_273 249 (by decide) ?_
      exact make_first X ht h1 h2 kk m (x + 1) (by omega) (by omega)
    refine V_aload_n X dX9_make_259 rfl rfl ?_
    refine M_geta X dX9_make_260 fk_X9_135 (by decide) rfl ?_
    refine V_iload X dX9_make_263 rfl ?_
    refine M_ialdN X dX9_make_265 (by decide) rfl (by omega) (by decide) ?_
    refine V_iload_n X dX9_make_266 rfl ?_
    refine V_icmp_eq X dX9_make_267 276 (by decide) (fun c_267 => ?_) (fun c_267 => ?_)
    · have he : x = t := by
        rcases Nat.lt_or_ge x t with z | z
        · exact absurd ⟨c_256, c_267⟩ (h1 x z)
        · omega
      subst he
      exact kk
    have hlt : x < t := by
      rcases Nat.lt_or_ge x t with z | z
      · exact z
      · exact absurd (show kpP T (nI b) x from (show t = x by omega) ▸ h2) (fun q => c_267 q.2)
    refine V_iinc X dX9_make_270 rfl (by decide) rfl (nI (x + 1)) (nI_1 x) ?_
    refine V_goto X dX9_make_273 249 (by decide) ?_
    exact make_first X ht h1 h2 kk m (x + 1) (by omega) (by omega)
theorem nar01 (c : Prop) [Decidable c] : vp_nar .boolean (if c then (1 : Int32) else 0) = if c then 1 else 0 := by split <;> rfl
theorem bd_sm {S : St} {b : Nat} (h : sm (S.1 22 b) 10) : sm (bdS S b) 40 := by
  unfold bdS
  split
  · exact sm_of (j := 40) rfl (Nat.le_refl _) (by decide)
  · exact ⟨h.1, by have := h.2; omega⟩
theorem mkA_k {S : St} {b M k j : Nat} (h : k ≠ 48 ∧ k ≠ 49 ∧ k ≠ 50 ∧ k ≠ 53) : (mkA S b M).1 k j = S.1 k j := by
  unfold mkA
  dsimp only
  rw [pa_n _ _ h.2.2.2, pa_n _ _ h.2.2.1, pa_n _ _ h.2.1, pa_n _ _ h.1]
theorem mkB_k {S : St} {b k j : Nat} (h : k ≠ 24) : (mkB S b).1 k j = S.1 k j := pa_n _ _ h
theorem mkK_k {S : St} {b k j : Nat} (h : k ≠ 54) : (mkK S b).1 k j = S.1 k j := by
  unfold mkK
  split
  · exact pa_n _ _ h
  · rfl
theorem mkE_k {S : St} {b M n k j : Nat} (h : k ≠ 54 ∧ k ≠ 51 ∧ k ≠ 52) : (mkE S b M n).1 k j = S.1 k j := by
  unfold mkE
  dsimp only
  rw [pa_n _ _ h.2.2, pa_n _ _ h.2.1, pa_n _ _ h.1]
abbrev mkF (k : Nat) : Prop := (k ≠ 48 ∧ k ≠ 49 ∧ k ≠ 50 ∧ k ≠ 53) ∧ k ≠ 24 ∧ (k ≠ 44 ∧ k ≠ 46 ∧ k ≠ 47 ∧ k ≠ 56 ∧ k ≠ 57 ∧ k ≠ 58)
theorem mkQ_k {S : St} {b M N k j : Nat} (h : mkF k) : (mkQ S b M N).1.1 k j = S.1 k j := by
  unfold mkQ
  rw [lpm_k h.2.2]
  show (mkB (mkA S b M) b).1 k j = _
  rw [mkB_k h.2.1, mkA_k h.1]
theorem mkQ_48 {S : St} {b M N : Nat} : (mkQ S b M N).1.1 48 0 = nI (M + 1) := by
  unfold mkQ
  rw [lpm_k (by decide)]
  simp [mkB, mkA, pa_1]
set_option maxRecDepth 100000 in
set_option maxHeartbeats 4000000 in
theorem make_end {l : Launch} {Z : Zt} {S C : St} {J : aH} {b M a n : Nat} {r3 : Int32} {o5 o6 o7 : Option Value} (X : Fx Z l (rmm 1 0 0 30) cX9_make 8 RX9 none (fun r I' => r = none ∧ I' = ovl (makeS S b) J)) (hb : b < 20) (hM : M < 900) (ha : a < 12) (hr : ¬ r3 = 0) (h32 : ct C 32 60) (e17 : C.1 17 b = nI a) (h13 : sm (C.1 13 a) 600) (e : makeS S b = mkT (mkE C b M n) b M a) : V Z 8 (ovl C J) [some (.ref mO), some (.int (nI b)), some (.int (nI M)), some (.int r3), some (.int (nI n)), o5, o6, o7] [] 0 0 284 := by
  refine V_aload_n X dX9_make_284 rfl rfl ?_
  refine M_geta X dX9_make_285 fk_X9_150 (by decide) rfl ?_
  refine V_iload_n X dX9_make_288 rfl ?_
  refine V_iconst (v := 1) X dX9_make_289 (by decide) ?_
  refine M_zastN X dX9_make_290 (by decide) rfl (by omega) (by decide) (rfl) ?_
  refine V_aload_n X dX9_make_291 rfl rfl ?_
  refine M_geta X dX9_make_292 fk_X9_141 (by decide) rfl ?_
  refine V_iload_n X dX9_make_295 rfl ?_
  refine V_iload X dX9_make_296 rfl ?_
  refine M_iastN X dX9_make_298 (by decide) rfl (by omega) (by decide) ?_
  refine V_aload_n X dX9_make_299 rfl rfl ?_
  refine M_geta X dX9_make_300 fk_X9_144 (by decide) rfl ?_
  refine V_iload_n X dX9_make_303 rfl ?_
  refine V_iload_n X dX9_make_304 rfl ?_
  refine V_if_eq X dX9_make_305 320 (by decide) (fun c_305 => ?_) (fun c_305 => ?_)
  · exact absurd c_305 hr
  refine V_aload_n X dX9_make_308 rfl rfl ?_
  refine V_iload_n X dX9_make_309 rfl ?_
  apply V_callV1 X dX9_make_310 mk_X9_214 iv_X9_leftOf (c_left l (ct_of (by simp [pa_1]) h32))
  · first | assumption | exact hu_s | exact (hu_n (by first | exact kd_nk (by decide) | exact kd_ni (by omega) | exact kd_ng (by omega) | assumption | exact Ne.symm (by assumption))).trans (by first | assumption | exact hu_s | exact (hu_n (by first | exact kd_nk (by decide) | exact kd_ni (by omega) | exact kd_ng (by omega) | assumption | exact Ne.symm (by assumption))).trans (by first | assumption | exact hu_s | exact (hu_n (by first | exact kd_nk (by decide) | exact kd_ni (by omega) | exact kd_ng (by omega) | assumption | exact Ne.symm (by assumption))).trans (by first | assumption | exact hu_s)))
  · exact rfl
  · exact Nat.le_of_ble_eq_true rfl
  · exact ⟨Nat.le_of_ble_eq_true rfl, Nat.le_of_ble_eq_true rfl⟩
  · exact ⟨by dsimp only [rmm]; omega, by dsimp only [rmm]; omega⟩
  rintro r I1 ⟨rfl, rfl⟩
  refine V_if_eq X dX9_make_313 320 (by decide) (fun c_313 => ?_) (fun c_313 => ?_)
  · have h_313 := bz_f c_313
    refine V_iconst (v := 0) X dX9_make_320 (by decide) ?_
    refine M_zastN X dX9_make_321 (by decide) rfl (by omega) (by decide) (rfl) ?_
    have e2 : mkE C b M n = _ := rfl
    unfold mkE at e
    dsimp only at e
    rw [if_neg h_313] at e
    exact make_tail X hb hM ha (by simp [pa_1]; exact e17) (by rw [pa_s]; rfl) (by simp [pa_1]; exact h13) e
  have h_313 := bz_t c_313
  refine V_iconst (v := 1) X dX9_make_316 (by decide) ?_
  refine V_goto X dX9_make_317 321 (by decide) ?_
  refine M_zastN X dX9_make_321 (by decide) rfl (by omega) (by decide) (rfl) ?_
  have e2 : mkE C b M n = _ := rfl
  unfold mkE at e
  dsimp only at e
  rw [if_pos h_313] at e
  exact make_tail X hb hM ha (by simp [pa_1]; exact e17) (by rw [pa_s]; rfl) (by simp [pa_1]; exact h13) e
set_option maxRecDepth 100000 in
set_option maxHeartbeats 4000000 in
theorem make_go {l : Launch} {Z : Zt} {S : St} {J : aH} {b M N a c : Nat} {r3 : Int32} (X : Fx Z l (rmm 1 0 0 30) cX9_make 8 RX9 none (fun r I' => r = none ∧ I' = ovl (makeS S b) J)) (hI : Iv c S) (hb : b < 20) (hM : M < 900) (ha : a < 12) (e48 : S.1 48 0 = nI M) (e32 : S.1 32 0 = nI N) (hN : N ≤ 60) (e17 : S.1 17 b = nI a) (h13 : sm (S.1 13 a) 600) (hr : ¬ r3 = 0) (eR : makeS S b = mkR S b M N a) : V Z 8 (ovl (mkB (mkA S b M) b) J) [some (.ref mO), some (.int (nI b)), some (.int (nI M)), some (.int r3), some (.int 0), some (.int (nI (nn (bdS (mkB (mkA S b M) b) b)))), some (.int 0), none] [] 0 0 92 := by
  obtain ⟨⟨h8, h15, h32, h48⟩, h2, h3, h4, h5, h6, h7⟩ := id hI
  have hbd := bd_sm (S := mkB (mkA S b M) b) (b := b) (by rw [mkB_k (by decide), mkA_k (by decide)]; exact (h3 b hb).2)
  have hk : ∀ k j, mkF k → (mkB (mkA S b M) b).1 k j = S.1 k j := fun k j h => by rw [mkB_k h.2.1, mkA_k h.1]
  have kk : ∀ o7, V Z 8 (ovl (mkQ S b M N).1 J) [some (.ref mO), some (.int (nI b)), some (.int (nI M)), some (.int r3), some (.int (nI (mkQ S b M N).2)), some (.int (nI (nn (bdS (mkB (mkA S b M) b) b)))), some (.int (nI N)), o7] [] 0 0 237 := by
    intro o7
    have h48c : ct (mkQ S b M N).1 48 900 := ⟨M + 1, by omega, mkQ_48⟩
    have hend : ∀ (C : St) (r5 : Int32) (o6 : Option Value), mkK (mkQ S b M N).1 b = C → V Z 8 (ovl C J) [some (.ref mO), some (.int (nI b)), some (.int (nI M)), some (.int r3), some (.int (nI (mkQ S b M N).2)), some (.int r5), o6, o7] [] 0 0 284 := by
      intro C r5 o6 hC
      refine make_end X hb hM ha hr ?_ ?_ ?_ ?_
      · rw [← hC]; exact ct_of (by rw [mkK_k (by decide), mkQ_k (by decide)]) h32
      · rw [← hC, mkK_k (by decide), mkQ_k (by decide)]; exact e17
      · rw [← hC, mkK_k (by decide), mkQ_k (by decide)]; exact h13
      · rw [eR, mkR, hC]
    refine V_aload_n X dX9_make_237 rfl rfl ?_
    refine V_iload_n X dX9_make_238 rfl ?_
    apply V_callV1 X dX9_make_239 mk_X9_211 iv_X9_keptOf (c_keptOf9 l h48c)
    · first | assumption | exact hu_s | exact (hu_n (by first | exact kd_nk (by decide) | exact kd_ni (by omega) | exact kd_ng (by omega) | assumption | exact Ne.symm (by assumption))).trans (by first | assumption | exact hu_s | exact (hu_n (by first | exact kd_nk (by decide) | exact kd_ni (by omega) | exact kd_ng (by omega) | assumption | exact Ne.symm (by assumption))).trans (by first | assumption | exact hu_s | exact (hu_n (by first | exact kd_nk (by decide) | exact kd_ni (by omega) | exact kd_ng (by omega) | assumption | exact Ne.symm (by assumption))).trans (by first | assumption | exact hu_s)))
    · exact rfl
    · exact Nat.le_of_ble_eq_true rfl
    · exact ⟨Nat.le_of_ble_eq_true rfl, Nat.le_of_ble_eq_true rfl⟩
    · exact ⟨by dsimp only [rmm]; omega, by dsimp only [rmm]; omega⟩
    rintro r I1 ⟨rfl, rfl⟩
    refine V_iconst (v := 5) X dX9_make_242 (by decide) ?_
    refine V_icmp_ne X dX9_make_243 284 (by decide) (fun c_243 => ?_) (fun c_243 => ?_)
    · exact hend _ _ _ (by rw [mkK, if_neg c_243])
    have hf := fstK_spec (S := (mkQ S b M N).1) (s := nI b) (M + 1)
    have hkp : kpN (mkQ S b M N).1 (nI b) (M + 1) ≠ 0 := by
      intro q
      have e5 : kpA (mkQ S b M N).1 (nI b) = 0 := by show kpN _ _ (nn ((mkQ S b M N).1.1 48 0)) = 0; rw [mkQ_48, nnI (by omega)]; exact q
      rw [e5] at c_243
      exact absurd c_243 (by decide)
    have hft := hf.2.2.2 hkp
    refine V_iconst (v := 0) X dX9_make_246 (by decide) ?_
    refine V_istore X dX9_make_247 (by decide) rfl ?_
    refine make_first X (t := fstK (mkQ S b M N).1 (nI b) (M + 1)) (by omega) hf.2.1 (hf.2.2.1 hft) ?_ (fstK (mkQ S b M N).1 (nI b) (M + 1) + 1) 0 (by omega) (Nat.zero_le _)
    refine V_aload_n X dX9_make_276 rfl rfl ?_
    refine M_geta X dX9_make_277 fk_X9_150 (by decide) rfl ?_
    refine V_iload X dX9_make_280 rfl ?_
    refine V_iconst (v := 0) X dX9_make_282 (by decide) ?_
    refine M_zastN X dX9_make_283 (by decide) rfl (by omega) (by decide) (rfl) ?_
    exact hend _ _ _ (by rw [mkK, if_pos c_243, mkQ_48, nnI (by omega)])
  exact make_for X hb hM hbd.2 hN ((hk 32 0 (by decide)).trans e32) (fun j hj => by
    show sm ((mkB (mkA S b M) b).1 44 j) 8
    rw [mkB_k (by decide), mkA_k (by decide)]
    exact (h2 j hj).1) (Nat.zero_le _) kk (N + 1) 0 none (by omega) (Nat.zero_le _)
set_option maxRecDepth 100000 in
set_option maxHeartbeats 4000000 in
theorem c_make (l : Launch) {S : St} {J : aH} {b c : Nat} (hI : Iv c S) (hb : b < 20) : AM l yX9_make cX9_make 8 none (rmm 1 0 0 30) [.ref mO, .int (nI b)] (ovl S J) (fun r I' => r = none ∧ I' = ovl (makeS S b) J) := by
  obtain ⟨⟨h8, h15, h32, h48⟩, h2, h3, h4, h5, h6, h7⟩ := id hI
  obtain ⟨M, hM512, e48⟩ := h48
  obtain ⟨N, hN, e32⟩ := id h32
  have hM : M < 900 := by omega
  obtain ⟨a, ea⟩ : ∃ a, nn (S.1 17 b) = a := ⟨_, rfl⟩
  have hs17 := (h3 b hb).1
  have e17 : S.1 17 b = nI a := by rw [← ea]; exact hs17.1
  have ha : a < 12 := by rw [← ea]; have := hs17.2; omega
  have h13 : sm (S.1 13 a) 600 := ⟨(h4 a ha).2.1, by have := (h4 a ha).2.2; omega⟩
  refine AM_of RX9 (by decide) rfl [some (.ref mO), some (.int (nI b)), none, none, none, none, none, none] rfl (Nat.le_of_ble_eq_true rfl) (fun Z X hNm => ?_)
  refine V_aload_n X dX9_make_0 rfl rfl ?_
  refine M_getiE (nI M) X dX9_make_1 fk_X9_205 (by decide) rfl (e48) ?_
  refine V_istore_n X dX9_make_4 (by decide) rfl ?_
  refine V_aload_n X dX9_make_5 rfl rfl ?_
  refine V_iload_n X dX9_make_6 rfl ?_
  apply V_callV1 X dX9_make_7 mk_X9_208 iv_X9_isReady (c_ready l h32 (vp_in_nI2 hb (by omega)))
  · first | assumption | exact hu_s | exact (hu_n (by first | exact kd_nk (by decide) | exact kd_ni (by omega) | exact kd_ng (by omega) | assumption | exact Ne.symm (by assumption))).trans (by first | assumption | exact hu_s | exact (hu_n (by first | exact kd_nk (by decide) | exact kd_ni (by omega) | exact kd_ng (by omega) | assumption | exact Ne.symm (by assumption))).trans (by first | assumption | exact hu_s | exact (hu_n (by first | exact kd_nk (by decide) | exact kd_ni (by omega) | exact kd_ng (by omega) | assumption | exact Ne.symm (by assumption))).trans (by first | assumption | exact hu_s)))
  · exact rfl
  · exact Nat.le_of_ble_eq_true rfl
  · exact ⟨Nat.le_of_ble_eq_true rfl, Nat.le_of_ble_eq_true rfl⟩
  · exact ⟨by dsimp only [rmm]; omega, by dsimp only [rmm]; omega⟩
  rintro r I1 ⟨rfl, rfl⟩
  refine V_istore_n X dX9_make_10 (by decide) rfl ?_
  refine V_aload_n X dX9_make_11 rfl rfl ?_
  refine V_dup X dX9_make_12 rfl ?_
  refine M_getiE (nI M) X dX9_make_13 fk_X9_205 (by decide) rfl (e48) ?_
  refine V_iconst (v := 1) X dX9_make_16 (by decide) ?_
  refine V_iadd X dX9_make_17 ?_
  rw [nI_1]
  refine M_put X dX9_make_18 fk_X9_205 (by decide) rfl ?_
  refine V_aload_n X dX9_make_21 rfl rfl ?_
  refine M_geta X dX9_make_22 fk_X9_135 (by decide) rfl ?_
  refine V_iload_n X dX9_make_25 rfl ?_
  refine V_iload_n X dX9_make_26 rfl ?_
  refine M_iastN X dX9_make_27 (by decide) rfl (by omega) (by decide) ?_
  refine V_aload_n X dX9_make_28 rfl rfl ?_
  refine M_geta X dX9_make_29 fk_X9_138 (by decide) rfl ?_
  refine V_iload_n X dX9_make_32 rfl ?_
  refine V_aload_n X dX9_make_33 rfl rfl ?_
  refine M_geta X dX9_make_34 fk_X9_69 (by decide) rfl ?_
  refine V_iload_n X dX9_make_37 rfl ?_
  refine M_ialdN X dX9_make_38 (by decide) rfl (by omega) (by decide) ?_
  refine M_iastN X dX9_make_39 (by decide) rfl (by omega) (by decide) ?_
  refine V_aload_n X dX9_make_40 rfl rfl ?_
  refine M_geta X dX9_make_41 fk_X9_147 (by decide) rfl ?_
  refine V_iload_n X dX9_make_44 rfl ?_
  refine V_aload_n X dX9_make_45 rfl rfl ?_
  refine M_geti X dX9_make_46 fk_X9_199 (by decide) rfl ?_
  refine M_iastN X dX9_make_49 (by decide) rfl (by omega) (by decide) ?_
  refine V_iconst (v := 0) X dX9_make_50 (by decide) ?_
  refine V_istore X dX9_make_51 (by decide) rfl ?_
  refine V_iload_n X dX9_make_53 rfl ?_
  refine V_if_eq X dX9_make_54 291 (by decide) (fun c_54 => ?_) (fun c_54 => ?_)
  · have h_54 := bz_f c_54
    have eN : makeS S b = mkN S b M a := by rw [makeS, if_neg h_54, e48, nnI (by omega), ea]
    refine V_aload_n X dX9_make_291 rfl rfl ?_
    refine M_geta X dX9_make_292 fk_X9_141 (by decide) rfl ?_
    refine V_iload_n X dX9_make_295 rfl ?_
    refine V_iload X dX9_make_296 rfl ?_
    refine M_iastN X dX9_make_298 (by decide) rfl (by omega) (by decide) ?_
    refine V_aload_n X dX9_make_299 rfl rfl ?_
    refine M_geta X dX9_make_300 fk_X9_144 (by decide) rfl ?_
    refine V_iload_n X dX9_make_303 rfl ?_
    refine V_iload_n X dX9_make_304 rfl ?_
    refine V_if_eq X dX9_make_305 320 (by decide) (fun c_305 => ?_) (fun c_305 => ?_)
    · refine V_iconst (v := 0) X dX9_make_320 (by decide) ?_
      refine M_zastN X dX9_make_321 (by decide) rfl (by omega) (by decide) (rfl) ?_
      refine make_tail X hb hM ha (by simp [pa_1]; exact e17) (by rw [pa_s]; rfl) (by simp [pa_1]; exact h13) ?_
      rw [eN]
      rfl
    · exact absurd c_54 c_305
  have h_54 := bz_t c_54
  have eR : makeS S b = mkR S b M N a := by rw [makeS, if_pos h_54, e48, e32, nnI (by omega), nnI (by omega), ea]
  rw [show pa (pa (pa (pa S 48 0 (nI (M + 1))) 49 M (nI b)) 50 M ((pa (pa S 48 0 (nI (M + 1))) 49 M (nI b)).1 24 b)) 53 M ((pa (pa (pa S 48 0 (nI (M + 1))) 49 M (nI b)) 50 M ((pa (pa S 48 0 (nI (M + 1))) 49 M (nI b)).1 24 b)).1 0 0) = mkA S b M from rfl]
  refine V_aload_n X dX9_make_57 rfl rfl ?_
  refine M_geta X dX9_make_58 fk_X9_69 (by decide) rfl ?_
  refine V_iload_n X dX9_make_61 rfl ?_
  refine V_dup2 X dX9_make_62 rfl rfl ?_
  refine M_ialdN X dX9_make_63 (by decide) rfl (by omega) (by decide) ?_
  refine V_iconst (v := 1) X dX9_make_64 (by decide) ?_
  refine V_iadd X dX9_make_65 ?_
  refine M_iastN X dX9_make_66 (by decide) rfl (by omega) (by decide) ?_
  rw [show pa (mkA S b M) 24 b ((mkA S b M).1 24 b + 1) = mkB (mkA S b M) b from rfl]
  have hbd := bd_sm (S := mkB (mkA S b M) b) (b := b) (by rw [mkB_k (by decide), mkA_k (by decide)]; exact (h3 b hb).2)
  have hbd2 := hbd.2
  refine V_aload_n X dX9_make_67 rfl rfl ?_
  refine M_geta X dX9_make_68 fk_X9_63 (by decide) rfl ?_
  refine V_iload_n X dX9_make_71 rfl ?_
  refine M_ialdN X dX9_make_72 (by decide) rfl (by omega) (by decide) ?_
  refine V_if_ne X dX9_make_73 81 (by decide) (fun c_73 => ?_) (fun c_73 => ?_)
  · refine V_aload_n X dX9_make_81 rfl rfl ?_
    refine M_geta X dX9_make_82 fk_X9_63 (by decide) rfl ?_
    refine V_iload_n X dX9_make_85 rfl ?_
    refine M_ialdN X dX9_make_86 (by decide) rfl (by omega) (by decide) ?_
    refine V_istore X dX9_make_87 (by decide) rfl ?_
    refine V_iconst (v := 0) X dX9_make_89 (by decide) ?_
    refine V_istore X dX9_make_90 (by decide) rfl ?_
    have ebd : (mkB (mkA S b M) b).1 22 b = nI (nn (bdS (mkB (mkA S b M) b) b)) := by
      rw [← hbd.1]
      unfold bdS
      rw [if_neg c_73]
    rw [ebd]
    exact make_go X hI hb hM ha e48 e32 hN e17 h13 (fun q => by rw [if_pos h_54] at q; exact absurd q (by decide)) eR
  refine V_bipush (v := 40) X dX9_make_76 (by decide) ?_
  refine V_goto X dX9_make_78 87 (by decide) ?_
  refine V_istore X dX9_make_87 (by decide) rfl ?_
  refine V_iconst (v := 0) X dX9_make_89 (by decide) ?_
  refine V_istore X dX9_make_90 (by decide) rfl ?_
  have ebd : (40 : Int32) = nI (nn (bdS (mkB (mkA S b M) b) b)) := by
    rw [← hbd.1]
    unfold bdS
    rw [if_pos c_73]
  rw [ebd]
  exact make_go X hI hb hM ha e48 e32 hN e17 h13 (fun q => by rw [if_pos h_54] at q; exact absurd q (by decide)) eR
