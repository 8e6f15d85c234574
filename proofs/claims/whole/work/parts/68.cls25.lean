theorem nI_ge0 {k : Nat} (h : k < 2 ^ 31) : 0 ≤ nI k := by
  rw [fa_le, nI_toInt h, i0]
  omega
theorem best_1 {S : St} {s : Int32} {k : Nat} (hk : k < 2 ^ 31) (e : lpa (lt1 S s) (nn (S.1 15 0)) (-1) = nI k) : bestS S s = nI k := by
  unfold bestS
  rw [e]
  have := lpa_keep (S := S) (s := s) (a := nI k) (nn (S.1 15 0)) 0 (nI_ge0 hk)
  rw [Nat.zero_add] at this
  exact this
theorem best_2 {S : St} {s : Int32} (e : lpa (lt1 S s) (nn (S.1 15 0)) (-1) = -1) : bestS S s = lpa (mr1 S s) (nn (S.1 15 0)) (-1) := by
  unfold bestS
  rw [e]
theorem RJ.mlN {T : St} {Q : Nat → List Nat} {J J1 : aH} {a M : Nat} (R : RJ T Q J) (ha : a < nn (T.1 8 0)) (hM : M < 2 ^ 31) (h13 : ∀ s, s < nn (T.1 8 0) → sm (T.1 13 s) 512) (F : Fr 22 a J J1) (L1 : LL J1 22 a (mlL T a ++ [kd 8 M 0])) : RJ (mailN T a M) Q J1 := by
  have hi := sm_inc (h13 a ha) (by decide)
  have h5 := (h13 a ha).2
  have e13 : ∀ s, (mailN T a M).1 13 s = if s = a then T.1 13 a + 1 else T.1 13 s := fun s => by simp [mailN, pa_1]
  have e14 : ∀ x, (mailN T a M).1 14 x = if x = 1200 * a + nn (T.1 13 a) then nI M else T.1 14 x := fun x => by simp [mailN, pa_1]
  refine ⟨(R.1.upd (k := 22) rfl F L1).to (lsT ?_ ?_), (R.2.fr (k := 22) rfl F).cg⟩
  · show (if a < nn (T.1 8 0) then some (mlL (mailN T a M) a) else none) = _
    rw [if_pos ha]
    congr 1
    unfold mlL
    rw [e13, if_pos rfl, hi.2, List.range_succ, List.map_append]
    congr 1
    · refine List.map_congr_left fun j hj => ?_
      have hj := List.mem_range.mp hj
      rw [e14, if_neg (by omega)]
    · show [kd 8 (nn ((mailN T a M).1 14 (1200 * a + nn (T.1 13 a)))) 0] = _
      rw [e14, if_pos rfl, nnI hM]
  · intro k i hk hne
    rcases lk_c hk with rfl | rfl | rfl | rfl | rfl
    · exact ls20r
    · show (if i < nn (T.1 8 0) then some (mlL (mailN T a M) i) else none) = (if i < nn (T.1 8 0) then some (mlL T i) else none)
      by_cases hi2 : i < nn (T.1 8 0)
      · rw [if_pos hi2, if_pos hi2]
        have h6 := (h13 i hi2).2
        have hne2 : i ≠ a := fun q => hne ⟨rfl, q⟩
        congr 1
        unfold mlL
        rw [e13, if_neg hne2]
        refine List.map_congr_left fun j hj => ?_
        have hj := List.mem_range.mp hj
        rw [e14, if_neg (by omega)]
      · rw [if_neg hi2, if_neg hi2]
    · exact ls24
    · exact ls26
    · exact ls28
set_option maxRecDepth 100000 in
set_option maxHeartbeats 4000000 in
theorem k_publish (l : Launch) {S : St} {Q : Nat → List Nat} {J : aH} {d B : Nat} {s b n : Int32} (I : IN d B S) (hc : d + 1 ≤ 512) (hB : B < 2 ^ 31) (R : RJ S Q J) : AM l yX8_publish cX8_publish 6 (some .int) (rmm 9 5 1624 235) [.ref rO, .int s, .int b, .int n] (ovc S J) (RES (op_publish S s b n) J) := by
  have c := I.2.1
  have ow := I.2.2.2.1
  refine AM_of RX8 (by decide) rfl [some (.ref rO), some (.int s), some (.int b), some (.int n), none, none] rfl (Nat.le_of_ble_eq_true rfl) (fun Z X hNm => ?_)
  refine V_aload_n X dX8_publish_0 rfl rfl ?_
  refine V_iload_n X dX8_publish_1 rfl ?_
  apply V_callV1 X dX8_publish_2 mk_X8_112 iv_X8_enter (k_enter l c R.ml)
  · exact at_root
  · exact rfl
  · exact Nat.le_of_ble_eq_true rfl
  · exact ⟨Nat.le_of_ble_eq_true rfl, Nat.le_of_ble_eq_true rfl⟩
  · exact ⟨by dsimp only [rmm]; omega, by dsimp only [rmm]; omega⟩
  rintro r I1 (⟨hl, rfl, rfl⟩ | ⟨hl, rfl, rfl⟩)
  · have hs := lack_s hl
    have hi := (ses_ix hs).2
    have R1 : RJ (entP S s) Q J := R.cg
    have m1 := R1.ml
    have c1 : CT (entP S s) := c.cg
    refine V_astore X dX8_publish_5 (by decide) rfl rfl ?_
    refine V_aload X dX8_publish_7 rfl rfl ?_
    refine V_ifnonnull X dX8_publish_9 18 (by decide) ?_
    refine V_aload_n X dX8_publish_18 rfl rfl ?_
    refine V_aload X dX8_publish_19 rfl rfl ?_
    apply V_callV1 X dX8_publish_21 mk_X8_221 iv_X8_countSubscriptions (k_cntS l (S := entP S s) hs ow.cg c1 m1)
    · exact at_root
    · exact rfl
    · exact Nat.le_of_ble_eq_true rfl
    · exact ⟨Nat.le_of_ble_eq_true rfl, Nat.le_of_ble_eq_true rfl⟩
    · exact ⟨by dsimp only [rmm]; omega, by dsimp only [rmm]; omega⟩
    rintro r I1 ⟨rfl, rfl⟩
    refine V_if_ne X dX8_publish_24 34 (by decide) (fun c_24 => ?_) (fun c_24 => ?_)
    · have hcl := cn_le (sbB (entP S s) s) (nn ((entP S s).1 15 0))
      have h20 := (ct_nn c1.2.2.2.1 (by decide)).1
      have hH : hasB (entP S s) s := cn_pos.mp (by
        rcases Nat.eq_zero_or_pos (cn (sbB (entP S s) s) (nn ((entP S s).1 15 0))) with z | z
        · exact absurd (by rw [z]; rfl) c_24
        · exact z)
      refine V_aload X dX8_publish_34 rfl rfl ?_
      apply V_get X dX8_publish_36 fk_X8_224
      · exact at_ses (hi)
      · exact rfl
      refine V_iconst (v := 4) X dX8_publish_39 (by decide) ?_
      have h12 := (ct_nn c.2.2.1 (by decide)).1
      have hr4 := (I.1.2.2.2.1 (nn s) (by omega)).1
      have hr42 := hr4.2
      refine V_icmp_ge X dX8_publish_40 56 (by decide) (fun c_40 => ?_) (fun c_40 => ?_)
      · have h4 : (entP S s).1 12 (nn s) = 4 := by
          have z : (4 : Int32) ≤ S.1 12 (nn s) := c_40
          rw [hr4.1, show (4 : Int32) = nI 4 from rfl, nI_leI (by decide) (by omega)] at z
          show S.1 12 (nn s) = 4
          rw [hr4.1, show nn (S.1 12 (nn s)) = 4 by omega]
          rfl
        refine V_aload_n X dX8_publish_56 rfl rfl ?_
        refine V_bipush (v := (-8)) X dX8_publish_57 (by decide) ?_
        apply V_callV1 X dX8_publish_59 mk_X8_55 iv_X8_refuse (k_refuse l (S := entP S s) (by unfold vp_in; decide) (by decide))
        · exact at_root
        · exact rfl
        · exact Nat.le_of_ble_eq_true rfl
        · exact ⟨Nat.le_of_ble_eq_true rfl, Nat.le_of_ble_eq_true rfl⟩
        · exact ⟨by dsimp only [rmm]; omega, by dsimp only [rmm]; omega⟩
        rintro r I1 ⟨rfl, rfl⟩
        refine V_iret X dX8_publish_62 ?_ ?_ ?_ ?_
        · exact rfl
        · dsimp only [rmm]; omega
        · dsimp only [rmm]; omega
        exact RES.of (q := op_publish S s b n) (by rw [op_publish, if_pos (lack_ge.mpr hl), ent_0 hl, if_pos hH, if_pos h4] <;> rfl) R.cg FJ.rf
      have h3 : nn (S.1 12 (nn s)) ≤ 3 := by
        have z : ¬ (4 : Int32) ≤ S.1 12 (nn s) := c_40
        rw [hr4.1, show (4 : Int32) = nI 4 from rfl, nI_leI (by decide) (by omega)] at z
        omega
      have h4 : ¬ (entP S s).1 12 (nn s) = 4 := fun z => by
        have z2 : S.1 12 (nn s) = 4 := z
        rw [z2] at h3
        exact absurd h3 (by decide)
      refine V_aload_n X dX8_publish_43 rfl rfl ?_
      apply V_get X dX8_publish_44 fk_X8_28
      · exact at_root
      · exact rfl
      have h48 := ct_nn c1.2.2.2.2.2 (by decide)
      apply V_callV0 X dX8_publish_47 mk_X8_59 iv_Jx4a65c_size_8abf5 (k_szr l m1.2.2.2.2.2 c1.2.2.2.2.2 (by decide) rfl rfl)
      · exact ll_o (m1.2.2.2.2.2.ov rfl rfl)
      · exact rfl
      · exact Nat.le_of_ble_eq_true rfl
      · exact ⟨Nat.le_of_ble_eq_true rfl, Nat.le_of_ble_eq_true rfl⟩
      · exact ⟨by dsimp only [rmm]; omega, by dsimp only [rmm]; omega⟩
      rintro r I1 ⟨rfl, rfl⟩
      refine V_sipush (v := 900) X dX8_publish_50 (by decide) ?_
      refine V_icmp_lt X dX8_publish_53 63 (by decide) (fun c_53 => ?_) (fun c_53 => ?_)
      · have h900 : ¬ (entP S s).1 48 0 = 900 := fun z => by
          rw [h48.2, show (900 : Int32) = nI 900 from rfl, nI_eq (by omega) (by decide)] at z
          omega
        refine V_aload_n X dX8_publish_63 rfl rfl ?_
        refine V_iload_n X dX8_publish_64 rfl ?_
        refine V_iconst (v := (-1)) X dX8_publish_65 (by decide) ?_
        refine V_icmp_ne X dX8_publish_66 73 (by decide) (fun c_66 => ?_) (fun c_66 => ?_)
        · refine V_aload_n X dX8_publish_73 rfl rfl ?_
          refine V_aload X dX8_publish_74 rfl rfl ?_
          refine V_iload_n X dX8_publish_76 rfl ?_
          refine V_iload_n X dX8_publish_77 rfl ?_
          apply V_callV3 X dX8_publish_78 mk_X8_227 iv_X8_acknowledge (k_ack l (S := entP S s) c1 R1 ow.cg hs c_66)
          · exact at_root
          · exact rfl
          · exact Nat.le_of_ble_eq_true rfl
          · exact ⟨Nat.le_of_ble_eq_true rfl, Nat.le_of_ble_eq_true rfl⟩
          · exact ⟨by dsimp only [rmm]; omega, by dsimp only [rmm]; omega⟩
          rintro r0 I1 ⟨rfl, Q1, J1, rfl, RA, FA⟩
          refine P1_9 X dX8_publish_81 fk_X8_43 ?_
          refine V_aload X dX8_publish_84 rfl rfl ?_
          refine V_dup X dX8_publish_86 rfl ?_
          apply V_get X dX8_publish_87 fk_X8_224
          · exact at_ses (by show nn s < nn ((ackS (entP S s) s b n).1.1 8 0); rw [ackS_k (by decide)]; exact hi)
          · exact rfl
          refine V_iconst (v := 1) X dX8_publish_90 (by decide) ?_
          refine V_iadd X dX8_publish_91 ?_
          refine P4_5 X dX8_publish_92 fk_X8_224 (by show nn s < nn ((ackS (entP S s) s b n).1.1 8 0); rw [ackS_k (by decide)]; exact hi) ?_
          have hTI : IN d B (entP S s) := I.put (k := 10) rfl
          have IA : IN (d + 1) B (pubA (entP S s) s b n) := hTI.pubA hs hc h3
          have RA3 : RJ (pubA (entP S s) s b n) Q1 J1 := RA.cg
          have FA3 : FJ J J1 := FA
          change V _ _ (ovc (pubA (entP S s) s b n) J1) _ _ _ _ _
          have e8 : (pubA (entP S s) s b n).1 8 0 = S.1 8 0 := by
            show (ackS (entP S s) s b n).1.1 8 0 = _
            exact ackS_k (by decide)
          have hsA : isSes (pubA (entP S s) s b n) s := by
            unfold isSes
            rw [e8]
            exact hs
          have cA := IA.2.1
          have h20A := (ct_nn cA.2.2.2.1 (by decide)).1
          have h12A := (ct_nn cA.2.2.1 (by decide)).1
          have hq8A : ∀ x, x < nn ((pubA (entP S s) s b n).1 32 0) → sm ((pubA (entP S s) s b n).1 44 x) 8 := fun x hx => (IA.1.2.1 x (by have := (ct_nn cA.2.2.2.2.1 (by decide)).1; omega)).1
          have e12A : nn ((pubA (entP S s) s b n).1 12 (nn s)) = nn (S.1 12 (nn s)) + 1 := by
            have e : (pubA (entP S s) s b n).1 12 (nn s) = S.1 12 (nn s) + 1 := by
              show (pa (pa (ackS (entP S s) s b n).1 60 0 _) 12 (nn s) ((ackS (entP S s) s b n).1.1 12 (nn s) + 1)).1 12 (nn s) = _
              rw [pa_s, ackS_k (by decide)]
              rfl
            rw [e]
            exact (sm_inc hr4 (by decide)).2
          refine V_aload_n X dX8_publish_95 rfl rfl ?_
          refine V_aload X dX8_publish_96 rfl rfl ?_
          apply V_callV1 X dX8_publish_98 mk_X8_231 iv_X8_longestLate (k_late l (S := (pubA (entP S s) s b n)) hsA IA.2.2.2.1 IA.2.2.2.2.2.2.2.2.2.2.2.1 hB cA RA3.ml)
          · exact at_root
          · exact rfl
          · exact Nat.le_of_ble_eq_true rfl
          · exact ⟨Nat.le_of_ble_eq_true rfl, Nat.le_of_ble_eq_true rfl⟩
          · exact ⟨by dsimp only [rmm]; omega, by dsimp only [rmm]; omega⟩
          rintro r0 I1 ⟨rfl, ⟨k, hk, h17, ek, rfl⟩ | ⟨ek, rfl⟩⟩
          · have hbest : bestS (pubA (entP S s) s b n) s = nI k := best_1 (by omega) ek
            refine V_astore X dX8_publish_101 (by decide) rfl rfl ?_
            refine V_aload X dX8_publish_103 rfl rfl ?_
            refine V_ifnonnull X dX8_publish_105 116 (by decide) ?_
            refine V_aload X dX8_publish_116 rfl rfl ?_
            refine V_ifnonnull X dX8_publish_118 123 (by decide) ?_
            refine V_aload_n X dX8_publish_123 rfl rfl ?_
            refine V_aload X dX8_publish_124 rfl rfl ?_
            have hr1 : 1 ≤ nn ((pubA (entP S s) s b n).1 12 (nn ((pubA (entP S s) s b n).1 17 k))) := by rw [h17, e12A]; omega
            have IM := IA.make hk hr1
            have e48 := IA.make48 hk
            have e13 := IA.make13 hk
            have how := IA.2.2.2.1.1 k hk
            have h48 := (ct_nn IM.2.1.2.2.2.2.2 (by decide)).1
            have h13 := (IM.1.2.2.2.1 (nn ((pubA (entP S s) s b n).1 17 k)) (by omega)).2.2
            apply V_callV1 X dX8_publish_126 mk_X8_238 iv_X8_send (k_send l (S := (pubA (entP S s) s b n)) (b := k) (M := nn ((pubA (entP S s) s b n).1 48 0)) hk cA RA3 IA.2.2.2.1 IA.2.2.2.2.2.2.1 IA.2.2.2.2.2.2.2.2.2.2.2.2 rfl (by omega) (IA.2.2.2.2.1.2.2.2.2 _ (Nat.le_refl _)) (IA.1.2.2.1 k (by omega)).2 (fun x hx => (IA.1.2.1 x hx).1) (IA.2.2.2.2.2.2.2.2.2.2.1 k (by omega)) (by omega))
            · exact at_root
            · exact rfl
            · exact Nat.le_of_ble_eq_true rfl
            · exact ⟨Nat.le_of_ble_eq_true rfl, Nat.le_of_ble_eq_true rfl⟩
            · exact ⟨by dsimp only [rmm]; omega, by dsimp only [rmm]; omega⟩
            rintro r0 I1 ⟨rfl, Q5, J5, rfl, R5, F5⟩
            refine V_iconst (v := 1) X dX8_publish_129 (by decide) ?_
            refine V_iret X dX8_publish_130 ?_ ?_ ?_ ?_
            · exact rfl
            · dsimp only [rmm]; omega
            · dsimp only [rmm]; omega
            exact RES.of (q := op_publish S s b n) (by rw [op_publish, if_pos (lack_ge.mpr hl), ent_0 hl, if_pos hH, if_neg h4, if_neg h900]; show (if 0 ≤ bestS (pubA (entP S s) s b n) s then (makeS (pubA (entP S s) s b n) (nn (bestS (pubA (entP S s) s b n) s)), (1 : Int32)) else ((pubA (entP S s) s b n), 0)) = _; rw [hbest, if_pos (nI_ge0 (by omega)), nnI (by omega)]) R5 (FA3.tr F5)
          refine V_astore X dX8_publish_101 (by decide) rfl rfl ?_
          refine V_aload X dX8_publish_103 rfl rfl ?_
          refine V_ifnonnullN X dX8_publish_105 ?_
          refine V_aload_n X dX8_publish_108 rfl rfl ?_
          refine V_aload X dX8_publish_109 rfl rfl ?_
          apply V_callV1 X dX8_publish_111 mk_X8_235 iv_X8_firstWithMore (k_more l (S := (pubA (entP S s) s b n)) hsA IA.2.2.2.1 cA RA3 hq8A)
          · exact at_root
          · exact rfl
          · exact Nat.le_of_ble_eq_true rfl
          · exact ⟨Nat.le_of_ble_eq_true rfl, Nat.le_of_ble_eq_true rfl⟩
          · exact ⟨by dsimp only [rmm]; omega, by dsimp only [rmm]; omega⟩
          rintro r0 I1 ⟨rfl, ⟨k, hk, h17, ek2, rfl⟩ | ⟨ek2, rfl⟩⟩
          · have hbest : bestS (pubA (entP S s) s b n) s = nI k := (best_2 ek).trans ek2
            refine V_astore X dX8_publish_114 (by decide) rfl rfl ?_
            refine V_aload X dX8_publish_116 rfl rfl ?_
            refine V_ifnonnull X dX8_publish_118 123 (by decide) ?_
            refine V_aload_n X dX8_publish_123 rfl rfl ?_
            refine V_aload X dX8_publish_124 rfl rfl ?_
            have hr1 : 1 ≤ nn ((pubA (entP S s) s b n).1 12 (nn ((pubA (entP S s) s b n).1 17 k))) := by rw [h17, e12A]; omega
            have IM := IA.make hk hr1
            have e48 := IA.make48 hk
            have e13 := IA.make13 hk
            have how := IA.2.2.2.1.1 k hk
            have h48 := (ct_nn IM.2.1.2.2.2.2.2 (by decide)).1
            have h13 := (IM.1.2.2.2.1 (nn ((pubA (entP S s) s b n).1 17 k)) (by omega)).2.2
            apply V_callV1 X dX8_publish_126 mk_X8_238 iv_X8_send (k_send l (S := (pubA (entP S s) s b n)) (b := k) (M := nn ((pubA (entP S s) s b n).1 48 0)) hk cA RA3 IA.2.2.2.1 IA.2.2.2.2.2.2.1 IA.2.2.2.2.2.2.2.2.2.2.2.2 rfl (by omega) (IA.2.2.2.2.1.2.2.2.2 _ (Nat.le_refl _)) (IA.1.2.2.1 k (by omega)).2 (fun x hx => (IA.1.2.1 x hx).1) (IA.2.2.2.2.2.2.2.2.2.2.1 k (by omega)) (by omega))
            · exact at_root
            · exact rfl
            · exact Nat.le_of_ble_eq_true rfl
            · exact ⟨Nat.le_of_ble_eq_true rfl, Nat.le_of_ble_eq_true rfl⟩
            · exact ⟨by dsimp only [rmm]; omega, by dsimp only [rmm]; omega⟩
            rintro r0 I1 ⟨rfl, Q5, J5, rfl, R5, F5⟩
            refine V_iconst (v := 1) X dX8_publish_129 (by decide) ?_
            refine V_iret X dX8_publish_130 ?_ ?_ ?_ ?_
            · exact rfl
            · dsimp only [rmm]; omega
            · dsimp only [rmm]; omega
            exact RES.of (q := op_publish S s b n) (by rw [op_publish, if_pos (lack_ge.mpr hl), ent_0 hl, if_pos hH, if_neg h4, if_neg h900]; show (if 0 ≤ bestS (pubA (entP S s) s b n) s then (makeS (pubA (entP S s) s b n) (nn (bestS (pubA (entP S s) s b n) s)), (1 : Int32)) else ((pubA (entP S s) s b n), 0)) = _; rw [hbest, if_pos (nI_ge0 (by omega)), nnI (by omega)]) R5 (FA3.tr F5)
          have hbest : bestS (pubA (entP S s) s b n) s = -1 := (best_2 ek).trans ek2
          refine V_astore X dX8_publish_114 (by decide) rfl rfl ?_
          refine V_aload X dX8_publish_116 rfl rfl ?_
          refine V_ifnonnullN X dX8_publish_118 ?_
          refine V_iconst (v := 0) X dX8_publish_121 (by decide) ?_
          refine V_iret X dX8_publish_122 ?_ ?_ ?_ ?_
          · exact rfl
          · dsimp only [rmm]; omega
          · dsimp only [rmm]; omega
          exact RES.of (q := op_publish S s b n) (by rw [op_publish, if_pos (lack_ge.mpr hl), ent_0 hl, if_pos hH, if_neg h4, if_neg h900]; show (if 0 ≤ bestS (pubA (entP S s) s b n) s then (makeS (pubA (entP S s) s b n) (nn (bestS (pubA (entP S s) s b n) s)), (1 : Int32)) else ((pubA (entP S s) s b n), 0)) = _; rw [hbest, if_neg (by decide)]) RA3 FA3
        refine V_iconst (v := 0) X dX8_publish_69 (by decide) ?_
        refine V_goto X dX8_publish_70 81 (by decide) ?_
        refine P1_9 X dX8_publish_81 fk_X8_43 ?_
        refine V_aload X dX8_publish_84 rfl rfl ?_
        refine V_dup X dX8_publish_86 rfl ?_
        apply V_get X dX8_publish_87 fk_X8_224
        · exact at_ses (hi)
        · exact rfl
        refine V_iconst (v := 1) X dX8_publish_90 (by decide) ?_
        refine V_iadd X dX8_publish_91 ?_
        refine P4_5 X dX8_publish_92 fk_X8_224 (hi) ?_
        have hTI : IN d B (entP S s) := I.put (k := 10) rfl
        have IA : IN (d + 1) B (pubA (entP S s) s b n) := hTI.pubA hs hc h3
        have eA : ackS (entP S s) s b n = (entP S s, 0) := by rw [ackS, if_pos c_66]
        have e3 : pa (pa (entP S s) 60 0 0) 12 (nn s) ((pa (entP S s) 60 0 0).1 12 (nn s) + 1) = (pubA (entP S s) s b n) := by
          unfold pubA
          rw [eA]
        have RA3 : RJ (pubA (entP S s) s b n) Q J := by
          rw [← e3]
          exact R1.cg
        have FA3 : FJ J J := FJ.rf
        rw [e3]
        have e8 : (pubA (entP S s) s b n).1 8 0 = S.1 8 0 := by
          show (ackS (entP S s) s b n).1.1 8 0 = _
          exact ackS_k (by decide)
        have hsA : isSes (pubA (entP S s) s b n) s := by
          unfold isSes
          rw [e8]
          exact hs
        have cA := IA.2.1
        have h20A := (ct_nn cA.2.2.2.1 (by decide)).1
        have h12A := (ct_nn cA.2.2.1 (by decide)).1
        have hq8A : ∀ x, x < nn ((pubA (entP S s) s b n).1 32 0) → sm ((pubA (entP S s) s b n).1 44 x) 8 := fun x hx => (IA.1.2.1 x (by have := (ct_nn cA.2.2.2.2.1 (by decide)).1; omega)).1
        have e12A : nn ((pubA (entP S s) s b n).1 12 (nn s)) = nn (S.1 12 (nn s)) + 1 := by
          have e : (pubA (entP S s) s b n).1 12 (nn s) = S.1 12 (nn s) + 1 := by
            show (pa (pa (ackS (entP S s) s b n).1 60 0 _) 12 (nn s) ((ackS (entP S s) s b n).1.1 12 (nn s) + 1)).1 12 (nn s) = _
            rw [pa_s, ackS_k (by decide)]
            rfl
          rw [e]
          exact (sm_inc hr4 (by decide)).2
        refine V_aload_n X dX8_publish_95 rfl rfl ?_
        refine V_aload X dX8_publish_96 rfl rfl ?_
        apply V_callV1 X dX8_publish_98 mk_X8_231 iv_X8_longestLate (k_late l (S := (pubA (entP S s) s b n)) hsA IA.2.2.2.1 IA.2.2.2.2.2.2.2.2.2.2.2.1 hB cA RA3.ml)
        · exact at_root
        · exact rfl
        · exact Nat.le_of_ble_eq_true rfl
        · exact ⟨Nat.le_of_ble_eq_true rfl, Nat.le_of_ble_eq_true rfl⟩
        · exact ⟨by dsimp only [rmm]; omega, by dsimp only [rmm]; omega⟩
        rintro r0 I1 ⟨rfl, ⟨k, hk, h17, ek, rfl⟩ | ⟨ek, rfl⟩⟩
        · have hbest : bestS (pubA (entP S s) s b n) s = nI k := best_1 (by omega) ek
          refine V_astore X dX8_publish_101 (by decide) rfl rfl ?_
          refine V_aload X dX8_publish_103 rfl rfl ?_
          refine V_ifnonnull X dX8_publish_105 116 (by decide) ?_
          refine V_aload X dX8_publish_116 rfl rfl ?_
          refine V_ifnonnull X dX8_publish_118 123 (by decide) ?_
          refine V_aload_n X dX8_publish_123 rfl rfl ?_
          refine V_aload X dX8_publish_124 rfl rfl ?_
          have hr1 : 1 ≤ nn ((pubA (entP S s) s b n).1 12 (nn ((pubA (entP S s) s b n).1 17 k))) := by rw [h17, e12A]; omega
          have IM := IA.make hk hr1
          have e48 := IA.make48 hk
          have e13 := IA.make13 hk
          have how := IA.2.2.2.1.1 k hk
          have h48 := (ct_nn IM.2.1.2.2.2.2.2 (by decide)).1
          have h13 := (IM.1.2.2.2.1 (nn ((pubA (entP S s) s b n).1 17 k)) (by omega)).2.2
          apply V_callV1 X dX8_publish_126 mk_X8_238 iv_X8_send (k_send l (S := (pubA (entP S s) s b n)) (b := k) (M := nn ((pubA (entP S s) s b n).1 48 0)) hk cA RA3 IA.2.2.2.1 IA.2.2.2.2.2.2.1 IA.2.2.2.2.2.2.2.2.2.2.2.2 rfl (by omega) (IA.2.2.2.2.1.2.2.2.2 _ (Nat.le_refl _)) (IA.1.2.2.1 k (by omega)).2 (fun x hx => (IA.1.2.1 x hx).1) (IA.2.2.2.2.2.2.2.2.2.2.1 k (by omega)) (by omega))
          · exact at_root
          · exact rfl
          · exact Nat.le_of_ble_eq_true rfl
          · exact ⟨Nat.le_of_ble_eq_true rfl, Nat.le_of_ble_eq_true rfl⟩
          · exact ⟨by dsimp only [rmm]; omega, by dsimp only [rmm]; omega⟩
          rintro r0 I1 ⟨rfl, Q5, J5, rfl, R5, F5⟩
          refine V_iconst (v := 1) X dX8_publish_129 (by decide) ?_
          refine V_iret X dX8_publish_130 ?_ ?_ ?_ ?_
          · exact rfl
          · dsimp only [rmm]; omega
          · dsimp only [rmm]; omega
          exact RES.of (q := op_publish S s b n) (by rw [op_publish, if_pos (lack_ge.mpr hl), ent_0 hl, if_pos hH, if_neg h4, if_neg h900]; show (if 0 ≤ bestS (pubA (entP S s) s b n) s then (makeS (pubA (entP S s) s b n) (nn (bestS (pubA (entP S s) s b n) s)), (1 : Int32)) else ((pubA (entP S s) s b n), 0)) = _; rw [hbest, if_pos (nI_ge0 (by omega)), nnI (by omega)]) R5 (FA3.tr F5)
        refine V_astore X dX8_publish_101 (by decide) rfl rfl ?_
        refine V_aload X dX8_publish_103 rfl rfl ?_
        refine V_ifnonnullN X dX8_publish_105 ?_
        refine V_aload_n X dX8_publish_108 rfl rfl ?_
        refine V_aload X dX8_publish_109 rfl rfl ?_
        apply V_callV1 X dX8_publish_111 mk_X8_235 iv_X8_firstWithMore (k_more l (S := (pubA (entP S s) s b n)) hsA IA.2.2.2.1 cA RA3 hq8A)
        · exact at_root
        · exact rfl
        · exact Nat.le_of_ble_eq_true rfl
        · exact ⟨Nat.le_of_ble_eq_true rfl, Nat.le_of_ble_eq_true rfl⟩
        · exact ⟨by dsimp only [rmm]; omega, by dsimp only [rmm]; omega⟩
        rintro r0 I1 ⟨rfl, ⟨k, hk, h17, ek2, rfl⟩ | ⟨ek2, rfl⟩⟩
        · have hbest : bestS (pubA (entP S s) s b n) s = nI k := (best_2 ek).trans ek2
          refine V_astore X dX8_publish_114 (by decide) rfl rfl ?_
          refine V_aload X dX8_publish_116 rfl rfl ?_
          refine V_ifnonnull X dX8_publish_118 123 (by decide) ?_
          refine V_aload_n X dX8_publish_123 rfl rfl ?_
          refine V_aload X dX8_publish_124 rfl rfl ?_
          have hr1 : 1 ≤ nn ((pubA (entP S s) s b n).1 12 (nn ((pubA (entP S s) s b n).1 17 k))) := by rw [h17, e12A]; omega
          have IM := IA.make hk hr1
          have e48 := IA.make48 hk
          have e13 := IA.make13 hk
          have how := IA.2.2.2.1.1 k hk
          have h48 := (ct_nn IM.2.1.2.2.2.2.2 (by decide)).1
          have h13 := (IM.1.2.2.2.1 (nn ((pubA (entP S s) s b n).1 17 k)) (by omega)).2.2
          apply V_callV1 X dX8_publish_126 mk_X8_238 iv_X8_send (k_send l (S := (pubA (entP S s) s b n)) (b := k) (M := nn ((pubA (entP S s) s b n).1 48 0)) hk cA RA3 IA.2.2.2.1 IA.2.2.2.2.2.2.1 IA.2.2.2.2.2.2.2.2.2.2.2.2 rfl (by omega) (IA.2.2.2.2.1.2.2.2.2 _ (Nat.le_refl _)) (IA.1.2.2.1 k (by omega)).2 (fun x hx => (IA.1.2.1 x hx).1) (IA.2.2.2.2.2.2.2.2.2.2.1 k (by omega)) (by omega))
          · exact at_root
          · exact rfl
          · exact Nat.le_of_ble_eq_true rfl
          · exact ⟨Nat.le_of_ble_eq_true rfl, Nat.le_of_ble_eq_true rfl⟩
          · exact ⟨by dsimp only [rmm]; omega, by dsimp only [rmm]; omega⟩
          rintro r0 I1 ⟨rfl, Q5, J5, rfl, R5, F5⟩
          refine V_iconst (v := 1) X dX8_publish_129 (by decide) ?_
          refine V_iret X dX8_publish_130 ?_ ?_ ?_ ?_
          · exact rfl
          · dsimp only [rmm]; omega
          · dsimp only [rmm]; omega
          exact RES.of (q := op_publish S s b n) (by rw [op_publish, if_pos (lack_ge.mpr hl), ent_0 hl, if_pos hH, if_neg h4, if_neg h900]; show (if 0 ≤ bestS (pubA (entP S s) s b n) s then (makeS (pubA (entP S s) s b n) (nn (bestS (pubA (entP S s) s b n) s)), (1 : Int32)) else ((pubA (entP S s) s b n), 0)) = _; rw [hbest, if_pos (nI_ge0 (by omega)), nnI (by omega)]) R5 (FA3.tr F5)
        have hbest : bestS (pubA (entP S s) s b n) s = -1 := (best_2 ek).trans ek2
        refine V_astore X dX8_publish_114 (by decide) rfl rfl ?_
        refine V_aload X dX8_publish_116 rfl rfl ?_
        refine V_ifnonnullN X dX8_publish_118 ?_
        refine V_iconst (v := 0) X dX8_publish_121 (by decide) ?_
        refine V_iret X dX8_publish_122 ?_ ?_ ?_ ?_
        · exact rfl
        · dsimp only [rmm]; omega
        · dsimp only [rmm]; omega
        exact RES.of (q := op_publish S s b n) (by rw [op_publish, if_pos (lack_ge.mpr hl), ent_0 hl, if_pos hH, if_neg h4, if_neg h900]; show (if 0 ≤ bestS (pubA (entP S s) s b n) s then (makeS (pubA (entP S s) s b n) (nn (bestS (pubA (entP S s) s b n) s)), (1 : Int32)) else ((pubA (entP S s) s b n), 0)) = _; rw [hbest, if_neg (by decide)]) RA3 FA3
      · exact absurd (by rw [h48.2, show (900 : Int32) = nI 900 from rfl]; exact nI_lt (by omega) (by decide)) c_53
    have hcl := cn_le (sbB (entP S s) s) (nn ((entP S s).1 15 0))
    have h20 := (ct_nn c1.2.2.2.1 (by decide)).1
    have hH : ¬ hasB (entP S s) s := fun z => by
      have h0 := cn_pos.mpr z
      have := (nI_eq (b := 0) (by omega) (by decide)).mp c_24
      omega
    refine V_aload_n X dX8_publish_27 rfl rfl ?_
    refine V_bipush (v := (-9)) X dX8_publish_28 (by decide) ?_
    apply V_callV1 X dX8_publish_30 mk_X8_55 iv_X8_refuse (k_refuse l (S := entP S s) (by unfold vp_in; decide) (by decide))
    · exact at_root
    · exact rfl
    · exact Nat.le_of_ble_eq_true rfl
    · exact ⟨Nat.le_of_ble_eq_true rfl, Nat.le_of_ble_eq_true rfl⟩
    · exact ⟨by dsimp only [rmm]; omega, by dsimp only [rmm]; omega⟩
    rintro r I1 ⟨rfl, rfl⟩
    refine V_iret X dX8_publish_33 ?_ ?_ ?_ ?_
    · exact rfl
    · dsimp only [rmm]; omega
    · dsimp only [rmm]; omega
    exact RES.of (q := op_publish S s b n) (by rw [op_publish, if_pos (lack_ge.mpr hl), ent_0 hl, if_neg hH] <;> rfl) R.cg FJ.rf
  refine V_astore X dX8_publish_5 (by decide) rfl rfl ?_
  refine V_aload X dX8_publish_7 rfl rfl ?_
  refine V_ifnonnullN X dX8_publish_9 ?_
  refine V_aload_n X dX8_publish_12 rfl rfl ?_
  refine V_iload_n X dX8_publish_13 rfl ?_
  apply V_callV1 X dX8_publish_14 mk_X8_105 iv_X8_refuseSession (k_refS l c R.ml (lack_no hl))
  · exact at_root
  · exact rfl
  · exact Nat.le_of_ble_eq_true rfl
  · exact ⟨Nat.le_of_ble_eq_true rfl, Nat.le_of_ble_eq_true rfl⟩
  · exact ⟨by dsimp only [rmm]; omega, by dsimp only [rmm]; omega⟩
  rintro r I1 ⟨rfl, rfl⟩
  refine V_iret X dX8_publish_17 ?_ ?_ ?_ ?_
  · exact rfl
  · dsimp only [rmm]; omega
  · dsimp only [rmm]; omega
  exact RES.of (q := op_publish S s b n) (by rw [op_publish, if_neg (fun q => hl (lack_ge.mp q)), ent_1 hl] <;> rfl) R.cg FJ.rf
set_option maxRecDepth 100000 in
set_option maxHeartbeats 4000000 in
theorem k_again (l : Launch) {S : St} {Q : Nat → List Nat} {J : aH} {d B : Nat} {s b n : Int32} (I : IN d B S) (R : RJ S Q J) : AM l yX8_again cX8_again 7 (some .int) (rmm 7 1 320 191) [.ref rO, .int s, .int b, .int n] (ovc S J) (RES (op_again S s b n) J) := by
  have c := I.2.1
  have ow := I.2.2.2.1
  refine AM_of RX8 (by decide) rfl [some (.ref rO), some (.int s), some (.int b), some (.int n), none, none, none] rfl (Nat.le_of_ble_eq_true rfl) (fun Z X hNm => ?_)
  refine V_aload_n X dX8_again_0 rfl rfl ?_
  refine V_iload_n X dX8_again_1 rfl ?_
  apply V_callV1 X dX8_again_2 mk_X8_112 iv_X8_enter (k_enter l c R.ml)
  · exact at_root
  · exact rfl
  · exact Nat.le_of_ble_eq_true rfl
  · exact ⟨Nat.le_of_ble_eq_true rfl, Nat.le_of_ble_eq_true rfl⟩
  · exact ⟨by dsimp only [rmm]; omega, by dsimp only [rmm]; omega⟩
  rintro r I1 (⟨hl, rfl, rfl⟩ | ⟨hl, rfl, rfl⟩)
  · have hs := lack_s hl
    have hi := (ses_ix hs).2
    have R1 : RJ (entP S s) Q J := R.cg
    have m1 := R1.ml
    have c1 : CT (entP S s) := c.cg
    refine V_astore X dX8_again_5 (by decide) rfl rfl ?_
    refine V_aload X dX8_again_7 rfl rfl ?_
    refine V_ifnonnull X dX8_again_9 18 (by decide) ?_
    refine V_aload_n X dX8_again_18 rfl rfl ?_
    refine V_aload X dX8_again_19 rfl rfl ?_
    refine V_iload_n X dX8_again_21 rfl ?_
    apply V_callV2 X dX8_again_22 mk_X8_153 iv_X8_subscriptionOf (k_subOf l (S := entP S s) c.cg R1.ml ow.cg hs)
    · exact at_root
    · exact rfl
    · exact Nat.le_of_ble_eq_true rfl
    · exact ⟨Nat.le_of_ble_eq_true rfl, Nat.le_of_ble_eq_true rfl⟩
    · exact ⟨by dsimp only [rmm]; omega, by dsimp only [rmm]; omega⟩
    rintro r I1 ⟨rfl, ⟨hb, rfl⟩ | ⟨hb, rfl⟩⟩
    · have hj := (sub_ix (S := entP S s) hb.1.1).2
      refine V_astore X dX8_again_25 (by decide) rfl rfl ?_
      refine V_aload X dX8_again_27 rfl rfl ?_
      refine V_ifnonnull X dX8_again_29 39 (by decide) ?_
      refine V_aload X dX8_again_39 rfl rfl ?_
      refine V_iload_n X dX8_again_41 rfl ?_
      apply V_callV1 X dX8_again_42 mk_X8_242 iv_X7_keptOf (k_keptOf l (S := entP S s) (n := n) hj c1 R1)
      · exact at_sub (hj)
      · exact rfl
      · exact Nat.le_of_ble_eq_true rfl
      · exact ⟨Nat.le_of_ble_eq_true rfl, Nat.le_of_ble_eq_true rfl⟩
      · exact ⟨by dsimp only [rmm]; omega, by dsimp only [rmm]; omega⟩
      rintro r0 I1 ⟨rfl, ⟨hf, rfl⟩ | ⟨hf, rfl⟩⟩
      · rw [← (sub_ix (S := entP S s) hb.1.1).1] at hf ⊢
        obtain ⟨M, hM1, hM2, eM, hM3, -⟩ := fkS_nat (ct_up c1.2.2.2.2.2 (by decide)) hf
        have enM : nn (fkS (entP S s) b n) = M := by rw [eM]; exact nnI (by omega)
        refine V_astore X dX8_again_45 (by decide) rfl rfl ?_
        refine V_aload X dX8_again_47 rfl rfl ?_
        refine V_ifnonnull X dX8_again_49 59 (by decide) ?_
        refine V_aload X dX8_again_59 rfl rfl ?_
        apply V_get X dX8_again_61 fk_X8_246
        · exact at_ses (hi)
        · exact rfl
        have h22 := R1.mail hi
        have hma := I.2.2.2.2.2.2.1 _ hi
        have h12 := (ct_nn c.2.2.1 (by decide)).1
        apply V_callV0 X dX8_again_64 mk_X8_59 iv_Jx4a65c_size_8abf5 (k_size l (x := (entP S s).1 13 (nn s)) (h22.ov rfl rfl) (by rw [mlL_len]; exact hma.1.1.symm))
        · exact ll_o (h22.ov rfl rfl)
        · exact rfl
        · exact Nat.le_of_ble_eq_true rfl
        · exact ⟨Nat.le_of_ble_eq_true rfl, Nat.le_of_ble_eq_true rfl⟩
        · exact ⟨by dsimp only [rmm]; omega, by dsimp only [rmm]; omega⟩
        rintro r I1 ⟨rfl, rfl⟩
        refine V_sipush (v := 200) X dX8_again_67 (by decide) ?_
        refine V_icmp_lt X dX8_again_70 80 (by decide) (fun c_70 => ?_) (fun c_70 => ?_)
        · have hl2 : (mlL (entP S s) (nn s)).length ≤ 199 := by
            rw [mlL_len]
            have z : S.1 13 (nn s) < 200 := c_70
            have h5 := hma.1.2
            rw [hma.1.1, show (200 : Int32) = nI 200 from rfl, nI_ltI (by omega) (by decide)] at z
            show nn (S.1 13 (nn s)) ≤ 199
            omega
          refine V_aload X dX8_again_80 rfl rfl ?_
          apply V_get X dX8_again_82 fk_X8_246
          · exact at_ses (hi)
          · exact rfl
          refine V_aload X dX8_again_85 rfl rfl ?_
          rw [enM]
          apply V_callV1 X dX8_again_87 mk_X8_66 iv_Jx4a65c_add_9ea2d (c_add l (by decide) (h22.ov (S := entP S s) rfl rfl) (by omega) (fun x hx => by obtain ⟨j, hj2, rfl⟩ := List.mem_map.mp hx; exact eo_ms (S := entP S s) ((hma.2 j (List.mem_range.mp hj2)).2)) (eo_ms (S := entP S s) hM1))
          · exact ll_o (h22.ov (S := entP S s) rfl rfl)
          · exact rfl
          · exact Nat.le_of_ble_eq_true rfl
          · exact ⟨Nat.le_of_ble_eq_true rfl, Nat.le_of_ble_eq_true rfl⟩
          · exact ⟨by dsimp only [rmm]; omega, by dsimp only [rmm]; omega⟩
          rintro r0 I1 ⟨rfl, hL, hF⟩
          obtain ⟨J2, rfl, hL2, hF2⟩ := LL_ov hF hL rfl rfl
          refine V_pop X dX8_again_90 rfl ?_
          refine V_aload X dX8_again_91 rfl rfl ?_
          refine V_aload X dX8_again_93 rfl rfl ?_
          apply V_get X dX8_again_95 fk_X8_161
          · exact at_sub (hj)
          · exact rfl
          refine P5_12 X dX8_again_98 fk_X8_164 (hj) ?_
          refine V_aload X dX8_again_101 rfl rfl ?_
          apply V_get X dX8_again_103 fk_X8_249
          · exact at_ms (hM1)
          · exact rfl
          refine V_iret X dX8_again_106 ?_ ?_ ?_ ?_
          · exact rfl
          · dsimp only [rmm]; omega
          · dsimp only [rmm]; omega
          have RM_ : RJ (mailN (entP S s) (nn s) M) Q J2 := RJ.mlN R1 hi (by omega) (fun x hx => (I.2.2.2.2.2.2.1 x hx).1) hF2 hL2
          have em : mailS (entP S s) s (fkS (entP S s) b n) = mailN (entP S s) (nn s) M := by
            have h := (mail_eq (S := entP S s) (a := nn s) (M := M) (by omega) ⟨hma.1.1, Nat.le_trans hma.1.2 (by decide)⟩).1
            rw [← (ses_ix hs).1, ← eM] at h
            exact h
          have eo2 : ovc (pa (entP S s) 26 (nn b) ((entP S s).1 21 (nn b))) J2 = ovc (pa (mailN (entP S s) (nn s) M) 26 (nn b) ((mailN (entP S s) (nn s) M).1 21 (nn b))) J2 := by
            rw [ovc_ml (a := nn s) (M := M)]
            congr 1
            show pa (pa (pa (entP S s) 26 (nn b) (S.1 21 (nn b))) 14 (1200 * nn s + nn (S.1 13 (nn s))) (nI M)) 13 (nn s) (S.1 13 (nn s) + 1) = pa (pa (pa (entP S s) 14 (1200 * nn s + nn (S.1 13 (nn s))) (nI M)) 13 (nn s) (S.1 13 (nn s) + 1)) 26 (nn b) (S.1 21 (nn b))
            rw [pa_cm (k := 26) (k' := 14) (by decide), pa_cm (k := 26) (k' := 13) (by decide)]
          rw [eo2]
          refine RES.of (q := op_again S s b n) ?_ RM_.cg (hF2.fj (k := 22) rfl)
          rw [op_again, if_pos (lkB_0 hl hb), ent_0 hl, if_pos hf, if_pos c_70]
          show (pa (mailS (entP S s) s (fkS (entP S s) b n)) 26 (nn b) ((mailS (entP S s) s (fkS (entP S s) b n)).1 21 (nn b)), (fkS (entP S s) b n)) = _
          rw [em, eM]
        refine V_aload_n X dX8_again_73 rfl rfl ?_
        refine V_bipush (v := (-8)) X dX8_again_74 (by decide) ?_
        apply V_callV1 X dX8_again_76 mk_X8_55 iv_X8_refuse (k_refuse l (S := entP S s) (by unfold vp_in; decide) (by decide))
        · exact at_root
        · exact rfl
        · exact Nat.le_of_ble_eq_true rfl
        · exact ⟨Nat.le_of_ble_eq_true rfl, Nat.le_of_ble_eq_true rfl⟩
        · exact ⟨by dsimp only [rmm]; omega, by dsimp only [rmm]; omega⟩
        rintro r I1 ⟨rfl, rfl⟩
        refine V_iret X dX8_again_79 ?_ ?_ ?_ ?_
        · exact rfl
        · dsimp only [rmm]; omega
        · dsimp only [rmm]; omega
        exact RES.of (q := op_again S s b n) (by rw [op_again, if_pos (lkB_0 hl hb), ent_0 hl, if_pos hf, if_neg c_70] <;> rfl) R.cg FJ.rf
      rw [← (sub_ix (S := entP S s) hb.1.1).1] at hf
      refine V_astore X dX8_again_45 (by decide) rfl rfl ?_
      refine V_aload X dX8_again_47 rfl rfl ?_
      refine V_ifnonnullN X dX8_again_49 ?_
      refine V_aload_n X dX8_again_52 rfl rfl ?_
      refine V_bipush (v := (-9)) X dX8_again_53 (by decide) ?_
      apply V_callV1 X dX8_again_55 mk_X8_55 iv_X8_refuse (k_refuse l (S := entP S s) (by unfold vp_in; decide) (by decide))
      · exact at_root
      · exact rfl
      · exact Nat.le_of_ble_eq_true rfl
      · exact ⟨Nat.le_of_ble_eq_true rfl, Nat.le_of_ble_eq_true rfl⟩
      · exact ⟨by dsimp only [rmm]; omega, by dsimp only [rmm]; omega⟩
      rintro r I1 ⟨rfl, rfl⟩
      refine V_iret X dX8_again_58 ?_ ?_ ?_ ?_
      · exact rfl
      · dsimp only [rmm]; omega
      · dsimp only [rmm]; omega
      exact RES.of (q := op_again S s b n) (by rw [op_again, if_pos (lkB_0 hl hb), ent_0 hl, if_neg hf] <;> rfl) R.cg FJ.rf
    refine V_astore X dX8_again_25 (by decide) rfl rfl ?_
    refine V_aload X dX8_again_27 rfl rfl ?_
    refine V_ifnonnullN X dX8_again_29 ?_
    refine V_aload_n X dX8_again_32 rfl rfl ?_
    refine V_bipush (v := (-5)) X dX8_again_33 (by decide) ?_
    apply V_callV1 X dX8_again_35 mk_X8_55 iv_X8_refuse (k_refuse l (S := entP S s) (by unfold vp_in; decide) (by decide))
    · exact at_root
    · exact rfl
    · exact Nat.le_of_ble_eq_true rfl
    · exact ⟨Nat.le_of_ble_eq_true rfl, Nat.le_of_ble_eq_true rfl⟩
    · exact ⟨by dsimp only [rmm]; omega, by dsimp only [rmm]; omega⟩
    rintro r I1 ⟨rfl, rfl⟩
    refine V_iret X dX8_again_38 ?_ ?_ ?_ ?_
    · exact rfl
    · dsimp only [rmm]; omega
    · dsimp only [rmm]; omega
    exact RES.of (q := op_again S s b n) (by rw [op_again, if_neg (lkB_5 hl hb).2, (lkB_5 hl hb).1, ent_0 hl] <;> rfl) R.cg FJ.rf
  refine V_astore X dX8_again_5 (by decide) rfl rfl ?_
  refine V_aload X dX8_again_7 rfl rfl ?_
  refine V_ifnonnullN X dX8_again_9 ?_
  refine V_aload_n X dX8_again_12 rfl rfl ?_
  refine V_iload_n X dX8_again_13 rfl ?_
  apply V_callV1 X dX8_again_14 mk_X8_105 iv_X8_refuseSession (k_refS l c R.ml (lack_no hl))
  · exact at_root
  · exact rfl
  · exact Nat.le_of_ble_eq_true rfl
  · exact ⟨Nat.le_of_ble_eq_true rfl, Nat.le_of_ble_eq_true rfl⟩
  · exact ⟨by dsimp only [rmm]; omega, by dsimp only [rmm]; omega⟩
  rintro r I1 ⟨rfl, rfl⟩
  refine V_iret X dX8_again_17 ?_ ?_ ?_ ?_
  · exact rfl
  · dsimp only [rmm]; omega
  · dsimp only [rmm]; omega
  exact RES.of (q := op_again S s b n) (by rw [op_again, if_neg (lkB_n hl).2, (lkB_n hl).1, ent_1 hl] <;> rfl) R.cg FJ.rf
