theorem min_nI {a b : Nat} (ha : a < 2 ^ 31) (hb : b < 2 ^ 31) : (if nI b < nI a then nI b else nI a) = nI (min a b) := by
  by_cases h : b < a
  · rw [if_pos (nI_lt h ha), Nat.min_eq_right (by omega)]
  · rw [if_neg (fun q => h ((nI_ltI hb ha).mp q)), Nat.min_eq_left (by omega)]
theorem min_0 {b : Nat} (hb : b < 2 ^ 31) : (if nI b < (0 : Int32) then nI b else (0 : Int32)) = nI 0 := by
  have h : ¬ nI b < nI 0 := fun q => absurd ((nI_ltI hb (by decide)).mp q) (Nat.not_lt_zero _)
  have e : nI 0 = (0 : Int32) := by decide
  rw [e] at h ⊢
  exact if_neg h
theorem EnL_en {S : St} {b : Nat} : EnL (itI S b) S = enN S b := rfl
/-- what takeEntries leaves: the state, and how many were taken -/
def tkF (S : St) (b M : Nat) : St × Nat := if S.1 23 b = 0 then (S, 0) else tkY S b (nn (bdS S b)) M (itI S b).length
def TKP (S : St) (b M : Nat) (J : aH) : Option Value → aH → Prop := fun r I' => r = some (.ref (kd 10 M 0)) ∧ ∃ Q' J' f, I' = ovc (tkF S b M).1 (hu J' (kd 10 M 0) (.inl (4, aR (tkF S b M).2 f))) ∧ RJ (tkF S b M).1 Q' J' ∧ FJ J J' ∧ ∀ x, x < (tkF S b M).2 → MsE (tkF S b M).1 Q' J' f (40 * M + x) x
set_option maxRecDepth 100000 in
set_option maxHeartbeats 4000000 in
theorem tkin_loop {l : Launch} {Z : Zt} {S : St} {J : aH} {b M cnt k y i : Nat} {lim wv shv : Int32} {q0 : St × Nat} (hi : i < nn (q0.1.1 32 0)) (h60 : nn (q0.1.1 32 0) ≤ 60) (h8 : ∀ x, x < 60 → sm (q0.1.1 44 x) 8) (hsv : shv = nI k) (hsh : k ≤ nn (q0.1.1 44 i)) (hcn : q0.2 + k ≤ cnt) (hc40 : cnt ≤ 40) (hM : nn (q0.1.1 48 0) ≤ M) (kk : ∀ Q1 J1 f, RJ (mvE M i k q0).1 Q1 J1 → FJ J J1 → (∀ x, x < q0.2 + k → MsE (mvE M i k q0).1 Q1 J1 f (40 * M + x) x) → V Z 10 (ovc (mvE M i k q0).1 (hu J1 (kd 10 M 0) (.inl (4, aR cnt f)))) [some (.ref (kd 5 b 0)), some (.int lim), some (.int (nI cnt)), some (.ref (kd 10 M 0)), some (.int (nI (q0.2 + k))), some (.int (nI y)), some (.ref (kd 6 i 0)), some (.int wv), some (.int shv), some (.int (nI k))] [] 1 40 155) (X : Fx Z l (rmm 4 1 40 106) cX7_takeEntries 10 RX7 (some (.array (.object "WatchServer$Entry"))) (TKP S b M J)) : ∀ (m j : Nat) (Q1 : Nat → List Nat) (J1 : aH) (f : Nat → Option Nat), k - j < m → j ≤ k → RJ (mvE M i j q0).1 Q1 J1 → FJ J J1 → (∀ x, x < q0.2 + j → MsE (mvE M i j q0).1 Q1 J1 f (40 * M + x) x) → V Z 10 (ovc (mvE M i j q0).1 (hu J1 (kd 10 M 0) (.inl (4, aR cnt f)))) [some (.ref (kd 5 b 0)), some (.int lim), some (.int (nI cnt)), some (.ref (kd 10 M 0)), some (.int (nI (q0.2 + j))), some (.int (nI y)), some (.ref (kd 6 i 0)), some (.int wv), some (.int shv), some (.int (nI j))] [] 1 40 120
  | 0, _, _, _, _, _, _, _, _, _ => absurd (by assumption) (Nat.not_lt_zero _)
  | m + 1, j, Q1, J1, f, hm, hj, R, F, hms => by
    have e32 : nn ((mvE M i j q0).1.1 32 0) = nn (q0.1.1 32 0) := congrArg nn (mvE_k (by decide) j)
    have hi1 : i < nn ((mvE M i j q0).1.1 32 0) := by omega
    refine V_iload X dX7_takeEntries_120 rfl ?_
    refine V_iload X dX7_takeEntries_122 rfl ?_
    refine V_icmp_ge X dX7_takeEntries_124 155 (by decide) (fun c_124 => ?_) (fun c_124 => ?_)
    · rw [hsv] at c_124
      have hj0 : j = k := by
        have := (nI_leI (by omega) (by omega)).mp c_124
        omega
      rw [hj0] at R hms ⊢
      exact kk Q1 J1 f R F hms
    rw [hsv] at c_124
    have hlt : j < k := by
      rcases Nat.lt_or_ge j k with z | z
      · exact z
      · exact absurd (nI_le z (by omega)) c_124
    obtain ⟨s1, s2⟩ := mvE_q (M := M) (q := q0) (h8 i (by omega)) j (by omega)
    have s0 := s1.2
    have hen := R.2.1 i hi1
    have h28 := R.que hi1
    have hql : (quL Q1 i).length = nn ((mvE M i j q0).1.1 44 i) := by rw [quL_len, hen.2.1]
    have hEO : ∀ a ∈ quL Q1 i, EO (ovc (mvE M i j q0).1 (hu J1 (kd 10 M 0) (.inl (4, aR cnt f)))) a := fun a ha => by
      obtain ⟨g, hg, rfl⟩ := List.mem_map.mp ha
      obtain ⟨v1, t1, b1, h1⟩ := R.2.en hi1 g hg
      exact eo_en ((hu_n (kd_nk (by decide))).trans h1)
    refine V_aload_n X dX7_takeEntries_127 rfl rfl ?_
    refine V_iload X dX7_takeEntries_128 rfl ?_
    refine V_aload X dX7_takeEntries_130 rfl rfl ?_
    apply V_get X dX7_takeEntries_132 fk_X7_96
    · exact at_it (hi1)
    · exact rfl
    apply V_get X dX7_takeEntries_135 fk_X7_100
    · exact at_qu (hi1)
    · exact rfl
    refine V_iconst (v := 0) X dX7_takeEntries_138 (by decide) ?_
    apply V_callV1 X dX7_takeEntries_139 mk_X7_113 iv_Jx4a65c_remove_915e3 (k_rem l (j := 0) rfl (by decide) ((h28.hu (by decide) (by decide) (by decide)).ov rfl rfl) (by omega) (by omega) hEO)
    · exact ll_o ((h28.hu (by decide) (by decide) (by decide)).ov rfl rfl)
    · exact rfl
    · exact Nat.le_of_ble_eq_true rfl
    · exact ⟨Nat.le_of_ble_eq_true rfl, Nat.le_of_ble_eq_true rfl⟩
    · exact ⟨by dsimp only [rmm]; omega, by dsimp only [rmm]; omega⟩
    rintro r I1 ⟨rfl, hL, hF⟩
    obtain ⟨J2, rfl, hL2, hF2⟩ := LL_ov hF hL rfl rfl
    obtain ⟨J3, rfl, hF3, hLL⟩ := fr_hu hF2 (by decide) (by decide) (by decide)
    have hL3 := hLL _ hL2
    rw [show (quL Q1 i).getD 0 0 = kd 9 i ((Q1 i).getD 0 0) from map_at (by have := hen.2.1; omega)]
    have he3 : J3 (kd 9 i ((Q1 i).getD 0 0)) = _ := (hF3.k (by decide) (by decide)).trans (hen.2.2 0 (by omega))
    apply V_cast (ci := 1) X dX7_takeEntries_142 cl_X7_111
    · exact rfl
    · exact (ovc_k rfl).trans ((hu_n (kd_nk (by decide))).trans he3)
    apply V_aastore (t := 4) X dX7_takeEntries_145 (fun _ => rfl)
    · exact (ovc_k rfl).trans hu_s
    · exact ro_k (by decide)
    · exact vp_in_nI2 (by omega) (by omega)
    · exact (ovc_k rfl).trans ((hu_n (kd_nk (by decide))).trans he3)
    · exact rfl
    · first | exact Or.inl rfl | exact Or.inr (by decide)
    rw [hu_ovJ rfl, hu_hu, nI_clamp (by omega)]
    refine V_iinc X dX7_takeEntries_146 rfl (by decide) rfl (nI (q0.2 + (j + 1))) (nI_1 _) ?_
    refine V_iinc X dX7_takeEntries_149 rfl (by decide) rfl (nI (j + 1)) (nI_1 j) ?_
    refine V_goto X dX7_takeEntries_152 120 (by decide) ?_
    rw [mv_ovc (M := M) (i := i) (n := (mvE M i j q0).2)]
    have hq8 : ∀ x, x < nn ((mvE M i j q0).1.1 32 0) → sm ((mvE M i j q0).1.1 44 x) 8 := fun x hx => by
      by_cases e : x = i
      · rw [e]; exact s1
      · rw [mvE_o e]; exact h8 x (by omega)
    have hMj : nn ((mvE M i j q0).1.1 48 0) ≤ M := by rw [mvE_k (by decide)]; exact hM
    have en : (mvE M i j q0).2 = q0.2 + j := mvE_n j
    refine tkin_loop hi h60 h8 hsv hsh hcn hc40 hM kk X m (j + 1) (uQ Q1 i ((Q1 i).eraseIdx 0)) J3 _ (by omega) (by omega) (RJ.mv R hi1 hq8 (by omega) hMj hF3 hL3) (F.tr (hF3.fj (k := 28) rfl)) (fun x hx => ?_)
    have hA : (mvE M i (j + 1) q0).1 = mv1 (mvE M i j q0).1 M i (mvE M i j q0).2 := rfl
    rw [hA, en]
    by_cases ex : x = q0.2 + j
    · rw [ex]
      exact MsE.mv f s1 (by omega) (by omega) hen hF3
    · exact MsE.keep (by omega) s1 (by omega) hF3 (hms x (by omega))
set_option maxRecDepth 100000 in
set_option maxHeartbeats 4000000 in
theorem tkout_loop {l : Launch} {Z : Zt} {S : St} {J : aH} {b M cnt B : Nat} {lim : Int32} (hb : b < nn (S.1 15 0)) (h60 : nn (S.1 32 0) ≤ 60) (h8 : ∀ x, x < 60 → sm (S.1 44 x) 8) (hM : nn (S.1 48 0) ≤ M) (hon : ¬ S.1 23 b = 0) (hB : B = nn (bdS S b)) (hcnt : cnt = tkC S b B) (hc40 : cnt ≤ 40) (X : Fx Z l (rmm 4 1 40 106) cX7_takeEntries 10 RX7 (some (.array (.object "WatchServer$Entry"))) (TKP S b M J)) : ∀ (m y : Nat) (Q1 : Nat → List Nat) (J1 : aH) (f : Nat → Option Nat) (o6 o7 o8 o9 : Option Value), (itI S b).length - y < m → y ≤ (itI S b).length → RJ (tkY S b B M y).1 Q1 J1 → FJ J J1 → (∀ x, x < (tkY S b B M y).2 → MsE (tkY S b B M y).1 Q1 J1 f (40 * M + x) x) → V Z 10 (ovc (tkY S b B M y).1 (hu J1 (kd 10 M 0) (.inl (4, aR cnt f)))) [some (.ref (kd 5 b 0)), some (.int lim), some (.int (nI cnt)), some (.ref (kd 10 M 0)), some (.int (nI (tkY S b B M y).2)), some (.int (nI y)), o6, o7, o8, o9] [] 1 40 48
  | 0, _, _, _, _, _, _, _, _, _, _, _, _, _ => absurd (by assumption) (Nat.not_lt_zero _)
  | m + 1, y, Q1, J1, f, o6, o7, o8, o9, hm, hy, R, F, hms => by
    have hle := itI_len (S := S) (b := b)
    have e15 : nn ((tkY S b B M y).1.1 15 0) = nn (S.1 15 0) := congrArg nn (tkY_k (by decide) y hy)
    have e32 : nn ((tkY S b B M y).1.1 32 0) = nn (S.1 32 0) := congrArg nn (tkY_k (by decide) y hy)
    have eI : itI (tkY S b B M y).1 b = itI S b := by
      unfold itI
      rw [tkY_k (by decide) y hy]
      refine fl_cg fun x hx => Bool.eq_iff_iff.mpr ?_
      rw [siB_iff, siB_iff]
      unfold siP
      rw [tkY_k (by decide) y hy, tkY_k (by decide) y hy]
    have h24 : LL J1 24 b (itL S b) := by
      have := R.its (s := b) (by omega)
      unfold itL at this
      rw [eI] at this
      exact this
    have h24h : LL (hu J1 (kd 10 M 0) (.inl (4, aR cnt f))) 24 b (itL S b) := h24.hu (by decide) (by decide) (by decide)
    have hcy := tkY_c (B := B) (M := M) h60 h8 hy
    refine V_iload X dX7_takeEntries_48 rfl ?_
    refine V_aload_n X dX7_takeEntries_50 rfl rfl ?_
    apply V_get X dX7_takeEntries_51 fk_X7_10
    · exact at_sub (by omega)
    · exact rfl
    apply V_callV0 X dX7_takeEntries_54 mk_X7_84 iv_Jx4a65c_size_8abf5 (k_size l (x := nI (itI S b).length) (h24h.ov rfl rfl) (by rw [itL_len]))
    · exact ll_o (h24h.ov rfl rfl)
    · exact rfl
    · exact Nat.le_of_ble_eq_true rfl
    · exact ⟨Nat.le_of_ble_eq_true rfl, Nat.le_of_ble_eq_true rfl⟩
    · exact ⟨by dsimp only [rmm]; omega, by dsimp only [rmm]; omega⟩
    rintro r I1 ⟨rfl, rfl⟩
    refine V_icmp_ge X dX7_takeEntries_57 161 (by decide) (fun c_57 => ?_) (fun c_57 => ?_)
    · have hx2 : y = (itI S b).length := by
        rcases Nat.lt_or_ge y ((itI S b).length) with z | z
        · exact absurd c_57 (nI_ge z (by omega))
        · omega
      refine V_aload_n X dX7_takeEntries_161 rfl rfl ?_
      refine V_aret X dX7_takeEntries_162 (Or.inr ⟨_, rfl⟩) rfl ?_ ?_ ?_
      · dsimp only [rmm]; omega
      · dsimp only [rmm]; omega
      have hfin : tkY S b B M (itI S b).length = (tkY S b B M y) := by rw [hx2]
      have e2 : (tkY S b B M y).2 = cnt := by rw [← hfin, tkY_all h60 h8, hcnt]
      have et : tkF S b M = (tkY S b B M y) := by rw [tkF, if_neg hon, ← hB]; exact hfin
      refine ⟨rfl, Q1, J1, f, ?_, ?_, F, ?_⟩
      · rw [et, e2]
      · rw [et]; exact R
      · rw [et]; exact hms
    have hlt : y < (itI S b).length := by
      rcases Nat.lt_or_ge y ((itI S b).length) with z | z
      · exact z
      · exact absurd (nI_le z (by omega)) c_57
    refine V_iload X dX7_takeEntries_60 rfl ?_
    refine V_iload_n X dX7_takeEntries_62 rfl ?_
    refine V_icmp_ge X dX7_takeEntries_63 161 (by decide) (fun c_63 => ?_) (fun c_63 => ?_)
    · have hlc : cnt ≤ (tkY S b B M y).2 := (nI_leI (by omega) (by omega)).mp c_63
      refine V_aload_n X dX7_takeEntries_161 rfl rfl ?_
      refine V_aret X dX7_takeEntries_162 (Or.inr ⟨_, rfl⟩) rfl ?_ ?_ ?_
      · dsimp only [rmm]; omega
      · dsimp only [rmm]; omega
      have hfin : tkY S b B M (itI S b).length = (tkY S b B M y) := tkY_stop h60 h8 hy (by rw [← hcnt]; exact hlc)
      have e2 : (tkY S b B M y).2 = cnt := by rw [← hfin, tkY_all h60 h8, hcnt]
      have et : tkF S b M = (tkY S b B M y) := by rw [tkF, if_neg hon, ← hB]; exact hfin
      refine ⟨rfl, Q1, J1, f, ?_, ?_, F, ?_⟩
      · rw [et, e2]
      · rw [et]; exact R
      · rw [et]; exact hms
    have hlc : (tkY S b B M y).2 < cnt := by
      rcases Nat.lt_or_ge (tkY S b B M y).2 cnt with z | z
      · exact z
      · exact absurd (nI_le z (by omega)) c_63
    refine V_aload_n X dX7_takeEntries_66 rfl rfl ?_
    apply V_get X dX7_takeEntries_67 fk_X7_10
    · exact at_sub (by omega)
    · exact rfl
    refine V_iload X dX7_takeEntries_70 rfl ?_
    apply V_callV1 X dX7_takeEntries_72 mk_X7_87 iv_Jx4a65c_get_915e3 (k_gtm l h24h (by omega) rfl rfl hlt)
    · exact ll_o (h24h.ov rfl rfl)
    · exact rfl
    · exact Nat.le_of_ble_eq_true rfl
    · exact ⟨Nat.le_of_ble_eq_true rfl, Nat.le_of_ble_eq_true rfl⟩
    · exact ⟨by dsimp only [rmm]; omega, by dsimp only [rmm]; omega⟩
    rintro r I1 ⟨rfl, rfl⟩
    have hi := itI_lt hlt
    have hi1 : ((itI S b).getD y 0) < nn ((tkY S b B M y).1.1 32 0) := by omega
    have s8 := tkY_q (b := b) (B := B) (M := M) h8 y hy ((itI S b).getD y 0) (by omega)
    have s82 := s8.2
    have h28 : LL (hu J1 (kd 10 M 0) (.inl (4, aR cnt f))) 28 ((itI S b).getD y 0) (quL Q1 ((itI S b).getD y 0)) := (R.que hi1).hu (by decide) (by decide) (by decide)
    apply V_cast (ci := 2) X dX7_takeEntries_75 cl_X7_91
    · exact rfl
    · exact at_it hi1
    refine V_astore X dX7_takeEntries_78 (by decide) rfl rfl ?_
    refine V_aload X dX7_takeEntries_80 rfl rfl ?_
    apply V_get X dX7_takeEntries_82 fk_X7_93
    · exact at_it (hi1)
    · exact rfl
    refine V_iconst (v := 2) X dX7_takeEntries_85 (by decide) ?_
    refine V_icmp_ne X dX7_takeEntries_86 103 (by decide) (fun c_86 => ?_) (fun c_86 => ?_)
    · refine V_iconst (v := 0) X dX7_takeEntries_103 (by decide) ?_
      refine V_istore X dX7_takeEntries_104 (by decide) rfl ?_
      refine V_iload X dX7_takeEntries_106 rfl ?_
      refine V_iload_n X dX7_takeEntries_108 rfl ?_
      refine V_iload X dX7_takeEntries_109 rfl ?_
      refine V_isub X dX7_takeEntries_111 ?_
      rw [pk_sub (by omega)]
      refine V_mmin X dX7_takeEntries_112 mk_X7_105.1 (Nat.le_of_ble_eq_true rfl) (Nat.le_of_ble_eq_true rfl) ?_ ?_ ?_
      · dsimp only [rmm]; omega
      · dsimp only [rmm]; omega
      rw [min_0 (by omega)]
      refine V_istore X dX7_takeEntries_115 (by decide) rfl ?_
      refine V_iconst (v := 0) X dX7_takeEntries_117 (by decide) ?_
      refine V_istore X dX7_takeEntries_118 (by decide) rfl ?_
      have hK := mvK_sh (B := B) (M := M) h60 h8 hlt
      rw [← hcnt, if_neg c_86] at hK
      refine tkin_loop (q0 := (tkY S b B M y)) (k := mvK (tkY S b B M y).1 b B ((itI S b).getD y 0) (tkY S b B M y).2) (i := ((itI S b).getD y 0)) hi1 (by omega) (tkY_q (b := b) (B := B) (M := M) h8 y hy) (by rw [hK]) (by rw [hK]; omega) (by rw [hK]; omega) hc40 (by rw [tkY_k (by decide) y hy]; exact hM) (fun Q2 J2 f2 R2 F2 hms2 => ?_) X (mvK (tkY S b B M y).1 b B ((itI S b).getD y 0) (tkY S b B M y).2 + 1) 0 Q1 J1 f (by omega) (Nat.zero_le _) R F hms
      refine V_iinc X dX7_takeEntries_155 rfl (by decide) rfl (nI (y + 1)) (nI_1 y) ?_
      refine V_goto X dX7_takeEntries_158 48 (by decide) ?_
      have ey : mvE M ((itI S b).getD y 0) (mvK (tkY S b B M y).1 b B ((itI S b).getD y 0) (tkY S b B M y).2) (tkY S b B M y) = tkY S b B M (y + 1) := by rw [tkY_s hlt, tkG_E s8]
      have en : (tkY S b B M y).2 + mvK (tkY S b B M y).1 b B ((itI S b).getD y 0) (tkY S b B M y).2 = (tkY S b B M (y + 1)).2 := by rw [← ey, mvE_n]
      rw [en]
      rw [ey] at R2 hms2 ⊢
      exact tkout_loop hb h60 h8 hM hon hB hcnt hc40 X m (y + 1) Q2 J2 f2 _ _ _ _ (by omega) (by omega) R2 F2 (fun x hx => hms2 x (by rw [en]; exact hx))
    refine V_aload X dX7_takeEntries_89 rfl rfl ?_
    apply V_get X dX7_takeEntries_91 fk_X7_96
    · exact at_it (hi1)
    · exact rfl
    apply V_get X dX7_takeEntries_94 fk_X7_100
    · exact at_qu (hi1)
    · exact rfl
    apply V_callV0 X dX7_takeEntries_97 mk_X7_84 iv_Jx4a65c_size_8abf5 (k_size l (x := nI (nn ((tkY S b B M y).1.1 44 ((itI S b).getD y 0)))) (h28.ov rfl rfl) (by rw [quL_len, (R.2.1 _ hi1).2.1]))
    · exact ll_o (h28.ov rfl rfl)
    · exact rfl
    · exact Nat.le_of_ble_eq_true rfl
    · exact ⟨Nat.le_of_ble_eq_true rfl, Nat.le_of_ble_eq_true rfl⟩
    · exact ⟨by dsimp only [rmm]; omega, by dsimp only [rmm]; omega⟩
    rintro r I1 ⟨rfl, rfl⟩
    refine V_goto X dX7_takeEntries_100 104 (by decide) ?_
    refine V_istore X dX7_takeEntries_104 (by decide) rfl ?_
    refine V_iload X dX7_takeEntries_106 rfl ?_
    refine V_iload_n X dX7_takeEntries_108 rfl ?_
    refine V_iload X dX7_takeEntries_109 rfl ?_
    refine V_isub X dX7_takeEntries_111 ?_
    rw [pk_sub (by omega)]
    refine V_mmin X dX7_takeEntries_112 mk_X7_105.1 (Nat.le_of_ble_eq_true rfl) (Nat.le_of_ble_eq_true rfl) ?_ ?_ ?_
    · dsimp only [rmm]; omega
    · dsimp only [rmm]; omega
    rw [min_nI (by omega) (by omega)]
    refine V_istore X dX7_takeEntries_115 (by decide) rfl ?_
    refine V_iconst (v := 0) X dX7_takeEntries_117 (by decide) ?_
    refine V_istore X dX7_takeEntries_118 (by decide) rfl ?_
    have hK := mvK_sh (B := B) (M := M) h60 h8 hlt
    rw [← hcnt, if_pos c_86] at hK
    refine tkin_loop (q0 := (tkY S b B M y)) (k := mvK (tkY S b B M y).1 b B ((itI S b).getD y 0) (tkY S b B M y).2) (i := ((itI S b).getD y 0)) hi1 (by omega) (tkY_q (b := b) (B := B) (M := M) h8 y hy) (by rw [hK]) (by rw [hK]; omega) (by rw [hK]; omega) hc40 (by rw [tkY_k (by decide) y hy]; exact hM) (fun Q2 J2 f2 R2 F2 hms2 => ?_) X (mvK (tkY S b B M y).1 b B ((itI S b).getD y 0) (tkY S b B M y).2 + 1) 0 Q1 J1 f (by omega) (Nat.zero_le _) R F hms
    refine V_iinc X dX7_takeEntries_155 rfl (by decide) rfl (nI (y + 1)) (nI_1 y) ?_
    refine V_goto X dX7_takeEntries_158 48 (by decide) ?_
    have ey : mvE M ((itI S b).getD y 0) (mvK (tkY S b B M y).1 b B ((itI S b).getD y 0) (tkY S b B M y).2) (tkY S b B M y) = tkY S b B M (y + 1) := by rw [tkY_s hlt, tkG_E s8]
    have en : (tkY S b B M y).2 + mvK (tkY S b B M y).1 b B ((itI S b).getD y 0) (tkY S b B M y).2 = (tkY S b B M (y + 1)).2 := by rw [← ey, mvE_n]
    rw [en]
    rw [ey] at R2 hms2 ⊢
    exact tkout_loop hb h60 h8 hM hon hB hcnt hc40 X m (y + 1) Q2 J2 f2 _ _ _ _ (by omega) (by omega) R2 F2 (fun x hx => hms2 x (by rw [en]; exact hx))
set_option maxRecDepth 100000 in
set_option maxHeartbeats 4000000 in
theorem k_take (l : Launch) {S : St} {Q : Nat → List Nat} {J : aH} {b M : Nat} (hb : b < nn (S.1 15 0)) (c : CT S) (R : RJ S Q J) (hM : nn (S.1 48 0) = M) (h22 : sm (S.1 22 b) 10) (h8 : ∀ x, x < 60 → sm (S.1 44 x) 8) (hq8 : ∀ x, x < nn (S.1 32 0) → sm (S.1 44 x) 8) : AM l yX7_takeEntries cX7_takeEntries 10 (some (.array (.object "WatchServer$Entry"))) (rmm 4 1 40 106) [.ref (kd 5 b 0)] (ovc S J) (TKP S b M J) := by
  have h60 := (ct_nn c.2.2.2.2.1 (by decide)).1
  have h24 := R.its hb
  have hbd := bd_sm (S := S) (b := b) h22
  have hE5 := R.2.2.2.2.2.1 M (by omega)
  have hQL := R.ql hq8
  have he480 := enN_le (b := b) hQL h60
  have hbd2 := hbd.2
  refine AM_of RX7 (by decide) rfl [some (.ref (kd 5 b 0)), none, none, none, none, none, none, none, none, none] rfl (Nat.le_of_ble_eq_true rfl) (fun Z X hNm => ?_)
  refine V_aload_n X dX7_takeEntries_0 rfl rfl ?_
  apply V_get X dX7_takeEntries_1 fk_X7_67
  · exact at_sub (hb)
  · exact rfl
  refine V_if_ne X dX7_takeEntries_4 12 (by decide) (fun c_4 => ?_) (fun c_4 => ?_)
  · refine V_aload_n X dX7_takeEntries_12 rfl rfl ?_
    apply V_get X dX7_takeEntries_13 fk_X7_67
    · exact at_sub (hb)
    · exact rfl
    refine V_istore_n X dX7_takeEntries_16 (by decide) rfl ?_
    refine V_aload_n X dX7_takeEntries_17 rfl rfl ?_
    apply V_get X dX7_takeEntries_18 fk_X7_19
    · exact at_sub (hb)
    · exact rfl
    refine V_if_eq X dX7_takeEntries_21 35 (by decide) (fun c_21 => ?_) (fun c_21 => ?_)
    · refine V_iconst (v := 0) X dX7_takeEntries_35 (by decide) ?_
      refine V_istore_n X dX7_takeEntries_36 (by decide) rfl ?_
      refine V_iload_n X dX7_takeEntries_37 rfl ?_
      refine V_anewarray X dX7_takeEntries_38 0 cl_X7_111 (t := 4) (fun _ => rfl) (Or.inr rfl) (by decide) (by decide) (by decide) (kd 10 M 0) ((ovc_k rfl).trans hE5) (kd_nk (by decide)) (ro_k (by decide)) (by dsimp only [rmm]; omega) (by dsimp only [rmm]; omega) ?_
      rw [hu_ovJ rfl]
      refine V_astore_n X dX7_takeEntries_41 (by decide) rfl rfl ?_
      refine V_iconst (v := 0) X dX7_takeEntries_42 (by decide) ?_
      refine V_istore X dX7_takeEntries_43 (by decide) rfl ?_
      refine V_iconst (v := 0) X dX7_takeEntries_45 (by decide) ?_
      refine V_istore X dX7_takeEntries_46 (by decide) rfl ?_
      refine V_iload X dX7_takeEntries_48 rfl ?_
      refine V_aload_n X dX7_takeEntries_50 rfl rfl ?_
      apply V_get X dX7_takeEntries_51 fk_X7_10
      · exact at_sub (hb)
      · exact rfl
      apply V_callV0 X dX7_takeEntries_54 mk_X7_84 iv_Jx4a65c_size_8abf5 (k_size l (x := nI (itI S b).length) ((h24.hu (by decide) (by decide) (by decide)).ov rfl rfl) (by rw [itL_len]))
      · exact ll_o ((h24.hu (by decide) (by decide) (by decide)).ov rfl rfl)
      · exact rfl
      · exact Nat.le_of_ble_eq_true rfl
      · exact ⟨Nat.le_of_ble_eq_true rfl, Nat.le_of_ble_eq_true rfl⟩
      · exact ⟨by dsimp only [rmm]; omega, by dsimp only [rmm]; omega⟩
      rintro r I1 ⟨rfl, rfl⟩
      refine V_icmp_ge X dX7_takeEntries_57 161 (by decide) (fun c_57 => ?_) (fun c_57 => ?_)
      · refine V_aload_n X dX7_takeEntries_161 rfl rfl ?_
        refine V_aret X dX7_takeEntries_162 (Or.inr ⟨_, rfl⟩) rfl ?_ ?_ ?_
        · dsimp only [rmm]; omega
        · dsimp only [rmm]; omega
        have et : tkF S b M = (S, 0) := if_pos c_21
        refine ⟨rfl, Q, J, fun _ => none, ?_, ?_, FJ.rf, ?_⟩
        · rw [et]
        · rw [et]; exact R
        · rw [et]; exact fun x hx => absurd hx (Nat.not_lt_zero _)
      refine V_iload X dX7_takeEntries_60 rfl ?_
      refine V_iload_n X dX7_takeEntries_62 rfl ?_
      refine V_icmp_ge X dX7_takeEntries_63 161 (by decide) (fun c_63 => ?_) (fun c_63 => ?_)
      · refine V_aload_n X dX7_takeEntries_161 rfl rfl ?_
        refine V_aret X dX7_takeEntries_162 (Or.inr ⟨_, rfl⟩) rfl ?_ ?_ ?_
        · dsimp only [rmm]; omega
        · dsimp only [rmm]; omega
        have et : tkF S b M = (S, 0) := if_pos c_21
        refine ⟨rfl, Q, J, fun _ => none, ?_, ?_, FJ.rf, ?_⟩
        · rw [et]
        · rw [et]; exact R
        · rw [et]; exact fun x hx => absurd hx (Nat.not_lt_zero _)
      · exact absurd (by decide) c_63
    refine V_iload_n X dX7_takeEntries_24 rfl ?_
    refine V_aload_n X dX7_takeEntries_25 rfl rfl ?_
    apply V_callV0 X dX7_takeEntries_26 mk_X7_76 iv_X7_countEntries (k_cntE l hb h24 hQL h60)
    · exact at_sub (hb)
    · exact rfl
    · exact Nat.le_of_ble_eq_true rfl
    · exact ⟨Nat.le_of_ble_eq_true rfl, Nat.le_of_ble_eq_true rfl⟩
    · exact ⟨by dsimp only [rmm]; omega, by dsimp only [rmm]; omega⟩
    rintro r I1 ⟨rfl, rfl⟩
    refine V_mmin X dX7_takeEntries_29 mk_X7_105.1 (Nat.le_of_ble_eq_true rfl) (Nat.le_of_ble_eq_true rfl) ?_ ?_ ?_
    · dsimp only [rmm]; omega
    · dsimp only [rmm]; omega
    refine V_goto X dX7_takeEntries_32 36 (by decide) ?_
    refine V_istore_n X dX7_takeEntries_36 (by decide) rfl ?_
    refine V_iload_n X dX7_takeEntries_37 rfl ?_
    have ecn : (if nI (enN S b) < bdS S b then nI (enN S b) else bdS S b) = nI (tkC S b (nn (bdS S b))) := by
      have e0 := hbd.1
      generalize nn (bdS S b) = B at *
      rw [e0, min_nI (by omega) (by omega)]
      unfold tkC
      rw [EnL_en, Nat.min_comm]
    have el : S.1 22 b = bdS S b := by rw [bdS, if_neg c_4]
    rw [el]
    refine V_anewarray X dX7_takeEntries_38 (tkC S b (nn (bdS S b))) cl_X7_111 (t := 4) (fun _ => rfl) (Or.inr rfl) (by rw [ecn]; exact nI_pos (by unfold tkC; omega)) (by rw [ecn]; exact nI_clamp (by unfold tkC; omega)) (by unfold tkC; omega) (kd 10 M 0) ((ovc_k rfl).trans hE5) (kd_nk (by decide)) (ro_k (by decide)) (by dsimp only [rmm]; omega) (by dsimp only [rmm, tkC]; omega) ?_
    rw [hu_ovJ rfl, ecn]
    refine V_widen (c2 := 1) (s2 := 40) (by dsimp only [rmm]; omega) (by dsimp only [rmm, tkC]; omega) ?_
    refine V_astore_n X dX7_takeEntries_41 (by decide) rfl rfl ?_
    refine V_iconst (v := 0) X dX7_takeEntries_42 (by decide) ?_
    refine V_istore X dX7_takeEntries_43 (by decide) rfl ?_
    refine V_iconst (v := 0) X dX7_takeEntries_45 (by decide) ?_
    refine V_istore X dX7_takeEntries_46 (by decide) rfl ?_
    exact tkout_loop (B := nn (bdS S b)) (J := J) hb h60 h8 (by omega) c_21 rfl rfl (by unfold tkC; omega) X ((itI S b).length + 1) 0 Q J (fun _ => none) none none none none (by omega) (Nat.zero_le _) R FJ.rf (fun x hx => absurd hx (Nat.not_lt_zero _))
  refine V_bipush (v := 40) X dX7_takeEntries_7 (by decide) ?_
  refine V_goto X dX7_takeEntries_9 16 (by decide) ?_
  refine V_istore_n X dX7_takeEntries_16 (by decide) rfl ?_
  refine V_aload_n X dX7_takeEntries_17 rfl rfl ?_
  apply V_get X dX7_takeEntries_18 fk_X7_19
  · exact at_sub (hb)
  · exact rfl
  refine V_if_eq X dX7_takeEntries_21 35 (by decide) (fun c_21 => ?_) (fun c_21 => ?_)
  · refine V_iconst (v := 0) X dX7_takeEntries_35 (by decide) ?_
    refine V_istore_n X dX7_takeEntries_36 (by decide) rfl ?_
    refine V_iload_n X dX7_takeEntries_37 rfl ?_
    refine V_anewarray X dX7_takeEntries_38 0 cl_X7_111 (t := 4) (fun _ => rfl) (Or.inr rfl) (by decide) (by decide) (by decide) (kd 10 M 0) ((ovc_k rfl).trans hE5) (kd_nk (by decide)) (ro_k (by decide)) (by dsimp only [rmm]; omega) (by dsimp only [rmm]; omega) ?_
    rw [hu_ovJ rfl]
    refine V_astore_n X dX7_takeEntries_41 (by decide) rfl rfl ?_
    refine V_iconst (v := 0) X dX7_takeEntries_42 (by decide) ?_
    refine V_istore X dX7_takeEntries_43 (by decide) rfl ?_
    refine V_iconst (v := 0) X dX7_takeEntries_45 (by decide) ?_
    refine V_istore X dX7_takeEntries_46 (by decide) rfl ?_
    refine V_iload X dX7_takeEntries_48 rfl ?_
    refine V_aload_n X dX7_takeEntries_50 rfl rfl ?_
    apply V_get X dX7_takeEntries_51 fk_X7_10
    · exact at_sub (hb)
    · exact rfl
    apply V_callV0 X dX7_takeEntries_54 mk_X7_84 iv_Jx4a65c_size_8abf5 (k_size l (x := nI (itI S b).length) ((h24.hu (by decide) (by decide) (by decide)).ov rfl rfl) (by rw [itL_len]))
    · exact ll_o ((h24.hu (by decide) (by decide) (by decide)).ov rfl rfl)
    · exact rfl
    · exact Nat.le_of_ble_eq_true rfl
    · exact ⟨Nat.le_of_ble_eq_true rfl, Nat.le_of_ble_eq_true rfl⟩
    · exact ⟨by dsimp only [rmm]; omega, by dsimp only [rmm]; omega⟩
    rintro r I1 ⟨rfl, rfl⟩
    refine V_icmp_ge X dX7_takeEntries_57 161 (by decide) (fun c_57 => ?_) (fun c_57 => ?_)
    · refine V_aload_n X dX7_takeEntries_161 rfl rfl ?_
      refine V_aret X dX7_takeEntries_162 (Or.inr ⟨_, rfl⟩) rfl ?_ ?_ ?_
      · dsimp only [rmm]; omega
      · dsimp only [rmm]; omega
      have et : tkF S b M = (S, 0) := if_pos c_21
      refine ⟨rfl, Q, J, fun _ => none, ?_, ?_, FJ.rf, ?_⟩
      · rw [et]
      · rw [et]; exact R
      · rw [et]; exact fun x hx => absurd hx (Nat.not_lt_zero _)
    refine V_iload X dX7_takeEntries_60 rfl ?_
    refine V_iload_n X dX7_takeEntries_62 rfl ?_
    refine V_icmp_ge X dX7_takeEntries_63 161 (by decide) (fun c_63 => ?_) (fun c_63 => ?_)
    · refine V_aload_n X dX7_takeEntries_161 rfl rfl ?_
      refine V_aret X dX7_takeEntries_162 (Or.inr ⟨_, rfl⟩) rfl ?_ ?_ ?_
      · dsimp only [rmm]; omega
      · dsimp only [rmm]; omega
      have et : tkF S b M = (S, 0) := if_pos c_21
      refine ⟨rfl, Q, J, fun _ => none, ?_, ?_, FJ.rf, ?_⟩
      · rw [et]
      · rw [et]; exact R
      · rw [et]; exact fun x hx => absurd hx (Nat.not_lt_zero _)
    · exact absurd (by decide) c_63
  refine V_iload_n X dX7_takeEntries_24 rfl ?_
  refine V_aload_n X dX7_takeEntries_25 rfl rfl ?_
  apply V_callV0 X dX7_takeEntries_26 mk_X7_76 iv_X7_countEntries (k_cntE l hb h24 hQL h60)
  · exact at_sub (hb)
  · exact rfl
  · exact Nat.le_of_ble_eq_true rfl
  · exact ⟨Nat.le_of_ble_eq_true rfl, Nat.le_of_ble_eq_true rfl⟩
  · exact ⟨by dsimp only [rmm]; omega, by dsimp only [rmm]; omega⟩
  rintro r I1 ⟨rfl, rfl⟩
  refine V_mmin X dX7_takeEntries_29 mk_X7_105.1 (Nat.le_of_ble_eq_true rfl) (Nat.le_of_ble_eq_true rfl) ?_ ?_ ?_
  · dsimp only [rmm]; omega
  · dsimp only [rmm]; omega
  refine V_goto X dX7_takeEntries_32 36 (by decide) ?_
  refine V_istore_n X dX7_takeEntries_36 (by decide) rfl ?_
  refine V_iload_n X dX7_takeEntries_37 rfl ?_
  have ecn : (if nI (enN S b) < bdS S b then nI (enN S b) else bdS S b) = nI (tkC S b (nn (bdS S b))) := by
    have e0 := hbd.1
    generalize nn (bdS S b) = B at *
    rw [e0, min_nI (by omega) (by omega)]
    unfold tkC
    rw [EnL_en, Nat.min_comm]
  have el : (40 : Int32) = bdS S b := by rw [bdS, if_pos c_4]
  rw [el]
  refine V_anewarray X dX7_takeEntries_38 (tkC S b (nn (bdS S b))) cl_X7_111 (t := 4) (fun _ => rfl) (Or.inr rfl) (by rw [ecn]; exact nI_pos (by unfold tkC; omega)) (by rw [ecn]; exact nI_clamp (by unfold tkC; omega)) (by unfold tkC; omega) (kd 10 M 0) ((ovc_k rfl).trans hE5) (kd_nk (by decide)) (ro_k (by decide)) (by dsimp only [rmm]; omega) (by dsimp only [rmm, tkC]; omega) ?_
  rw [hu_ovJ rfl, ecn]
  refine V_widen (c2 := 1) (s2 := 40) (by dsimp only [rmm]; omega) (by dsimp only [rmm, tkC]; omega) ?_
  refine V_astore_n X dX7_takeEntries_41 (by decide) rfl rfl ?_
  refine V_iconst (v := 0) X dX7_takeEntries_42 (by decide) ?_
  refine V_istore X dX7_takeEntries_43 (by decide) rfl ?_
  refine V_iconst (v := 0) X dX7_takeEntries_45 (by decide) ?_
  refine V_istore X dX7_takeEntries_46 (by decide) rfl ?_
  exact tkout_loop (B := nn (bdS S b)) (J := J) hb h60 h8 (by omega) c_21 rfl rfl (by unfold tkC; omega) X ((itI S b).length + 1) 0 Q J (fun _ => none) none none none none (by omega) (Nat.zero_le _) R FJ.rf (fun x hx => absurd hx (Nat.not_lt_zero _))
