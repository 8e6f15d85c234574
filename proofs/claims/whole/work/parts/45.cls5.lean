theorem fl_nil {p : Nat → Bool} {n : Nat} (h : ∀ x, x < n → ¬ p x = true) : fl p n = [] := by
  unfold fl
  rw [List.filter_eq_nil_iff]
  exact fun x hx => h x (List.mem_range.mp hx)
theorem lkB_n {S : St} {s b : Int32} (h : ¬ lackS S s = 0) : lkB S s b = lackS S s ∧ ¬ 0 ≤ lkB S s b := by
  have h' : ¬ 0 ≤ lackS S s := fun q => h (lack_ge.mp q)
  have e : lkB S s b = lackS S s := by rw [lkB, if_neg h']
  exact ⟨e, by rw [e]; exact h'⟩
theorem lkB_0 {S : St} {s b : Int32} (h : lackS S s = 0) (hb : okB (entP S s) s b) : 0 ≤ lkB S s b := by
  rw [lkB, if_pos (lack_ge.mpr h), ent_0 h, if_pos hb]
  decide
theorem lkB_5 {S : St} {s b : Int32} (h : lackS S s = 0) (hb : ¬ okB (entP S s) s b) : lkB S s b = -5 ∧ ¬ 0 ≤ lkB S s b := by
  have e : lkB S s b = -5 := by rw [lkB, if_pos (lack_ge.mpr h), ent_0 h, if_neg hb]
  exact ⟨e, by rw [e]; decide⟩
theorem lkI_n {S : St} {s b : Int32} (h : ¬ lackS S s = 0) : lkI S s b = lackS S s ∧ ¬ 0 ≤ lkI S s b := by
  have h' : ¬ 0 ≤ lackS S s := fun q => h (lack_ge.mp q)
  have e : lkI S s b = lackS S s := by rw [lkI, if_neg h']
  exact ⟨e, by rw [e]; exact h'⟩
theorem lkI_0 {S : St} {s b : Int32} (h : lackS S s = 0) (hb : okI (entP S s) s b) : 0 ≤ lkI S s b := by
  rw [lkI, if_pos (lack_ge.mpr h), ent_0 h, if_pos hb]
  decide
theorem lkI_5 {S : St} {s b : Int32} (h : lackS S s = 0) (hb : ¬ okI (entP S s) s b) : lkI S s b = -6 ∧ ¬ 0 ≤ lkI S s b := by
  have e : lkI S s b = -6 := by rw [lkI, if_pos (lack_ge.mpr h), ent_0 h, if_neg hb]
  exact ⟨e, by rw [e]; decide⟩
def begS (S : St) (i : Nat) (t p k li m : Int32) : St := pa (pa (pa (pa (pa (pa (pa S 18 i t) 19 i p) 20 i k) 21 i li) 22 i m) 25 i k) 26 i li
theorem beg_sub {S : St} {s p k li m : Int32} : begS (subN S s) (nn (S.1 15 0)) (S.1 0 0) p k li m = setS (pa (pa (pa (pa (pa S 15 0 (S.1 15 0 + 1)) 16 (nn (S.1 15 0)) 1) 17 (nn (S.1 15 0)) s) 23 (nn (S.1 15 0)) 1) 24 (nn (S.1 15 0)) 1) (S.1 15 0) p k li m := by
  refine St_ext ?_ rfl
  intro f i
  show (begS (subN S s) (nn (S.1 15 0)) (S.1 0 0) p k li m).1 f i = (begS (pa (pa (pa (pa (pa S 15 0 (S.1 15 0 + 1)) 16 (nn (S.1 15 0)) 1) 17 (nn (S.1 15 0)) s) 23 (nn (S.1 15 0)) 1) 24 (nn (S.1 15 0)) 1) (nn (S.1 15 0)) (S.1 0 0) p k li m).1 f i
  unfold begS subN SBf
  generalize nn (S.1 15 0) = N
  by_cases hi : i = N
  · subst hi
    by_cases a : f = 18
    · subst a; simp [pa_1]
    by_cases a : f = 19
    · subst a; simp [pa_1]
    by_cases a : f = 20
    · subst a; simp [pa_1]
    by_cases a : f = 21
    · subst a; simp [pa_1]
    by_cases a : f = 22
    · subst a; simp [pa_1]
    by_cases a : f = 25
    · subst a; simp [pa_1]
    by_cases a : f = 26
    · subst a; simp [pa_1]
    rename_i h1 h2 h3 h4 h5 h6
    simp [pa_1, *]
  · simp [pa_1, hi]
set_option maxRecDepth 100000 in
set_option maxHeartbeats 4000000 in
theorem k_subscribe (l : Launch) {S : St} {Q : Nat → List Nat} {J : aH} {s p k li mo : Int32} (c : CT S) (R : RJ S Q J) (z : FZ S) (ow : OW S) (mw : MW S) : AM l yX8_subscribe cX8_subscribe 8 (some .int) (rmm 7 4 70 191) [.ref rO, .int s, .int p, .int k, .int li, .int mo] (ovc S J) (RES (op_subscribe S s p k li mo) J) := by
  have m := R.ml
  have hln := (ct_nn c.2.2.2.1 (by decide)).1
  have hlen : (rg 5 (nn (S.1 15 0))).length ≤ 20 := by rw [rg_len]; exact hln
  have ei := ct_inc c.2.2.2.1 (by decide)
  have hz := z.2.2.1 _ (Nat.le_refl (nn (S.1 15 0)))
  refine AM_of RX8 (by decide) rfl [some (.ref rO), some (.int s), some (.int p), some (.int k), some (.int li), some (.int mo), none, none] rfl (Nat.le_of_ble_eq_true rfl) (fun Z X hNm => ?_)
  refine V_aload_n X dX8_subscribe_0 rfl rfl ?_
  refine V_iload_n X dX8_subscribe_1 rfl ?_
  apply V_callV1 X dX8_subscribe_2 mk_X8_112 iv_X8_enter (k_enter l c R.ml)
  · exact at_root
  · exact rfl
  · exact Nat.le_of_ble_eq_true rfl
  · exact ⟨Nat.le_of_ble_eq_true rfl, Nat.le_of_ble_eq_true rfl⟩
  · exact ⟨by dsimp only [rmm]; omega, by dsimp only [rmm]; omega⟩
  rintro r I1 (⟨hl, rfl, rfl⟩ | ⟨hl, rfl, rfl⟩)
  · have hs := lack_s hl
    have hi := (ses_ix hs).2
    have R1 : RJ (entP S s) Q J := R.cg
    have m1 := R1.ml
    have c1 : CT (entP S s) := c.cg
    refine V_astore X dX8_subscribe_5 (by decide) rfl rfl ?_
    refine V_aload X dX8_subscribe_7 rfl rfl ?_
    refine V_ifnonnull X dX8_subscribe_9 18 (by decide) ?_
    refine V_iload_n X dX8_subscribe_18 rfl ?_
    refine V_iload_n X dX8_subscribe_19 rfl ?_
    refine V_iload X dX8_subscribe_20 rfl ?_
    refine V_iload X dX8_subscribe_22 rfl ?_
    refine V_callS4 X dX8_subscribe_24 mk_X8_137 st_X7_mayHave (k_mayS l p k li mo) (Nat.le_of_ble_eq_true rfl) ⟨Nat.le_of_ble_eq_true rfl, Nat.le_of_ble_eq_true rfl⟩ ?_ ?_
    · exact ⟨by dsimp only [rmm]; omega, by dsimp only [rmm]; omega⟩
    rintro r I1 ⟨rfl, rfl⟩
    refine V_if_ne X dX8_subscribe_27 37 (by decide) (fun c_27 => ?_) (fun c_27 => ?_)
    · have h_27 := bz_t c_27
      refine V_aload_n X dX8_subscribe_37 rfl rfl ?_
      apply V_get X dX8_subscribe_38 fk_X8_22
      · exact at_root
      · exact rfl
      apply V_callV0 X dX8_subscribe_41 mk_X8_59 iv_Jx4a65c_size_8abf5 (k_szr l m1.2.2.2.1 c1.2.2.2.1 (by decide) rfl rfl)
      · exact ll_o (m1.2.2.2.1.ov rfl rfl)
      · exact rfl
      · exact Nat.le_of_ble_eq_true rfl
      · exact ⟨Nat.le_of_ble_eq_true rfl, Nat.le_of_ble_eq_true rfl⟩
      · exact ⟨by dsimp only [rmm]; omega, by dsimp only [rmm]; omega⟩
      rintro r I1 ⟨rfl, rfl⟩
      refine V_bipush (v := 20) X dX8_subscribe_44 (by decide) ?_
      refine V_icmp_lt X dX8_subscribe_46 56 (by decide) (fun c_46 => ?_) (fun c_46 => ?_)
      · have hq := ct_lt c1.2.2.2.1 (by decide) 20 rfl c_46
        refine V_new X dX8_subscribe_56 nk_X8_138 (kd 5 (nn (S.1 15 0)) 0) ?_ ?_ ?_ ?_ ?_ ?_
        · exact no_at rfl (if_neg (Nat.lt_irrefl _))
        · exact kd_nk (by decide)
        · exact ro_k (by decide)
        · dsimp only [rmm]; omega
        · dsimp only [rmm]; omega
        refine V_dup X dX8_subscribe_59 rfl ?_
        refine V_aload_n X dX8_subscribe_60 rfl rfl ?_
        apply V_get X dX8_subscribe_61 fk_X8_22
        · exact (hu_n (kd_nk (by decide))).trans at_root
        · exact rfl
        apply V_callV0 X dX8_subscribe_64 mk_X8_59 iv_Jx4a65c_size_8abf5 (k_size l (x := S.1 15 0) (((m.2.2.2.1.ov (S := entP S s) rfl rfl).hu (by decide) (by decide) (by decide))) (by rw [rg_len]; exact hq.2.1.symm))
        · exact ll_o ((m.2.2.2.1.ov (S := entP S s) rfl rfl).hu (by decide) (by decide) (by decide))
        · exact rfl
        · exact Nat.le_of_ble_eq_true rfl
        · exact ⟨Nat.le_of_ble_eq_true rfl, Nat.le_of_ble_eq_true rfl⟩
        · exact ⟨by dsimp only [rmm]; omega, by dsimp only [rmm]; omega⟩
        rintro r I1 ⟨rfl, rfl⟩
        refine V_aload X dX8_subscribe_67 rfl rfl ?_
        refine V_callI2 X dX8_subscribe_69 mk_X8_143 ii_X7_init (n_sub l hu_s ((hu_n (kd_nk (by decide))).trans ((ovc_k rfl).trans R.2.2.2.2.2.2)) (fun g => ⟨(hu_n (kd_nk (by decide))).trans ((ovc_k rfl).trans (R.1.new (k := 24) rfl (if_neg (Nat.lt_irrefl _)) g).1), (hu_n (kd_nk (by decide))).trans ((ovc_k rfl).trans (R.1.new (k := 24) rfl (if_neg (Nat.lt_irrefl _)) g).2)⟩) (fun g => ⟨(hu_n (kd_nk (by decide))).trans ((ovc_k rfl).trans (R.1.new (k := 26) rfl (if_neg (Nat.lt_irrefl _)) g).1), (hu_n (kd_nk (by decide))).trans ((ovc_k rfl).trans (R.1.new (k := 26) rfl (if_neg (Nat.lt_irrefl _)) g).2)⟩)) (Nat.le_of_ble_eq_true rfl) ⟨Nat.le_of_ble_eq_true rfl, Nat.le_of_ble_eq_true rfl⟩ ?_ ?_
        · exact ⟨by dsimp only [rmm]; omega, by dsimp only [rmm]; omega⟩
        rintro r I1 ⟨rfl, Ia, Ib, o1, hF0, hL0, hG0, hM0, rfl⟩
        have hFa := Fr.hu2 (o2 := .inr (8, [.int (S.1 15 0), .ref (kd 24 (nn (S.1 15 0)) 0), .ref (kd 26 (nn (S.1 15 0)) 0), .ref (kd 4 (nn s) 0), .int 0, .int 0, .int 0, .int 0, .int 0, .int 1, .int 1, .int 0, .int 0, .int 0, .int 0, .int 0, .int 0, .int 0])) hF0 (by decide) (by decide)
        have hnw : hu (ovc (entP S s) J) (kd 5 (nn (S.1 15 0)) 0) (.inr (8, [.int (S.1 15 0), .ref (kd 24 (nn (S.1 15 0)) 0), .ref (kd 26 (nn (S.1 15 0)) 0), .ref (kd 4 (nn s) 0), .int 0, .int 0, .int 0, .int 0, .int 0, .int 1, .int 1, .int 0, .int 0, .int 0, .int 0, .int 0, .int 0, .int 0])) = ovc (subN (entP S s) s) J := new_sub (S := entP S s) c1.2.2.2.1 hz
        rw [hnw] at hFa
        obtain ⟨J0, e0, hLa, hFb⟩ := LL_ov hFa (hL0.hu (by decide) (by decide) (by decide)) rfl rfl
        have hGa := Fr.hu2 (o2 := .inr (8, [.int (S.1 15 0), .ref (kd 24 (nn (S.1 15 0)) 0), .ref (kd 26 (nn (S.1 15 0)) 0), .ref (kd 4 (nn s) 0), .int 0, .int 0, .int 0, .int 0, .int 0, .int 1, .int 1, .int 0, .int 0, .int 0, .int 0, .int 0, .int 0, .int 0])) hG0 (by decide) (by decide)
        rw [e0] at hGa
        obtain ⟨J2, e2, hLc, hFc⟩ := LL_ov hGa (hM0.hu (by decide) (by decide) (by decide)) rfl rfl
        rw [e2]
        have hm := (m.2.2.2.1.fr hFb (by decide) (by decide) (by decide) (Or.inl (by decide))).fr hFc (by decide) (by decide) (by decide) (Or.inl (by decide))
        refine V_astore X dX8_subscribe_72 (by decide) rfl rfl ?_
        refine V_aload X dX8_subscribe_74 rfl rfl ?_
        refine V_aload_n X dX8_subscribe_76 rfl rfl ?_
        apply V_get X dX8_subscribe_77 fk_X8_35
        · exact at_root
        · exact rfl
        refine V_iload_n X dX8_subscribe_80 rfl ?_
        refine V_iload_n X dX8_subscribe_81 rfl ?_
        refine V_iload X dX8_subscribe_82 rfl ?_
        refine V_iload X dX8_subscribe_84 rfl ?_
        apply V_callV5 X dX8_subscribe_86 mk_X8_146 iv_X7_begin (k_begin l (S := subN (entP S s) s) (Nat.lt_of_lt_of_eq (Nat.lt_succ_self _) ei.1.symm))
        · exact at_sub (Nat.lt_of_lt_of_eq (Nat.lt_succ_self _) ei.1.symm)
        · exact rfl
        · exact Nat.le_of_ble_eq_true rfl
        · exact ⟨Nat.le_of_ble_eq_true rfl, Nat.le_of_ble_eq_true rfl⟩
        · exact ⟨by dsimp only [rmm]; omega, by dsimp only [rmm]; omega⟩
        rintro r I1 ⟨rfl, rfl⟩
        rw [show pa (pa (pa (pa (pa (pa (pa (subN (entP S s) s) 18 (nn (S.1 15 0)) ((subN (entP S s) s).1 0 0)) 19 (nn (S.1 15 0)) p) 20 (nn (S.1 15 0)) k) 21 (nn (S.1 15 0)) li) 22 (nn (S.1 15 0)) mo) 25 (nn (S.1 15 0)) k) 26 (nn (S.1 15 0)) li = setS (pa (pa (pa (pa (pa (entP S s) 15 0 (S.1 15 0 + 1)) 16 (nn (S.1 15 0)) 1) 17 (nn (S.1 15 0)) s) 23 (nn (S.1 15 0)) 1) 24 (nn (S.1 15 0)) 1) (S.1 15 0) p k li mo from beg_sub (S := entP S s)]
        refine V_aload_n X dX8_subscribe_89 rfl rfl ?_
        apply V_get X dX8_subscribe_90 fk_X8_22
        · exact at_root
        · exact rfl
        refine V_aload X dX8_subscribe_93 rfl rfl ?_
        apply V_callV1 X dX8_subscribe_95 mk_X8_66 iv_Jx4a65c_add_9ea2d (c_add l (by decide) (hm.ov (S := setS (pa (pa (pa (pa (pa (entP S s) 15 0 (S.1 15 0 + 1)) 16 (nn (S.1 15 0)) 1) 17 (nn (S.1 15 0)) s) 23 (nn (S.1 15 0)) 1) 24 (nn (S.1 15 0)) 1) (S.1 15 0) p k li mo) rfl rfl) (by omega) (fun a ha => by obtain ⟨i, hi, rfl⟩ := rg_mem ha; exact eo_sub (S := setS (pa (pa (pa (pa (pa (entP S s) 15 0 (S.1 15 0 + 1)) 16 (nn (S.1 15 0)) 1) 17 (nn (S.1 15 0)) s) 23 (nn (S.1 15 0)) 1) 24 (nn (S.1 15 0)) 1) (S.1 15 0) p k li mo) (Nat.lt_of_lt_of_eq (Nat.lt_succ_of_lt hi) ei.1.symm)) (eo_sub (S := setS (pa (pa (pa (pa (pa (entP S s) 15 0 (S.1 15 0 + 1)) 16 (nn (S.1 15 0)) 1) 17 (nn (S.1 15 0)) s) 23 (nn (S.1 15 0)) 1) 24 (nn (S.1 15 0)) 1) (S.1 15 0) p k li mo) (Nat.lt_of_lt_of_eq (Nat.lt_succ_self _) ei.1.symm)))
        · exact ll_o (hm.ov (S := setS (pa (pa (pa (pa (pa (entP S s) 15 0 (S.1 15 0 + 1)) 16 (nn (S.1 15 0)) 1) 17 (nn (S.1 15 0)) s) 23 (nn (S.1 15 0)) 1) 24 (nn (S.1 15 0)) 1) (S.1 15 0) p k li mo) rfl rfl)
        · exact rfl
        · exact Nat.le_of_ble_eq_true rfl
        · exact ⟨Nat.le_of_ble_eq_true rfl, Nat.le_of_ble_eq_true rfl⟩
        · exact ⟨by dsimp only [rmm]; omega, by dsimp only [rmm]; omega⟩
        rintro r I1 ⟨rfl, hL, hF⟩
        obtain ⟨J1, rfl, hL1, hF1⟩ := LL_ov hF hL rfl rfl
        refine V_pop X dX8_subscribe_98 rfl ?_
        refine V_aload X dX8_subscribe_99 rfl rfl ?_
        apply V_get X dX8_subscribe_101 fk_X8_150
        · exact at_sub (Nat.lt_of_lt_of_eq (Nat.lt_succ_self _) ei.1.symm)
        · exact rfl
        refine V_iret X dX8_subscribe_104 ?_ ?_ ?_ ?_
        · exact rfl
        · dsimp only [rmm]; omega
        · dsimp only [rmm]; omega
        have R2 : RJ (setS (pa (pa (pa (pa (pa (entP S s) 15 0 (S.1 15 0 + 1)) 16 (nn (S.1 15 0)) 1) 17 (nn (S.1 15 0)) s) 23 (nn (S.1 15 0)) 1) 24 (nn (S.1 15 0)) 1) (S.1 15 0) p k li mo) Q J1 := by
          refine ⟨(((R1.1.upd (k := 24) rfl hFb hLa).upd (k := 26) rfl hFc hLc).upd (k := 20) (i := 3) rfl hF1 hL1).to (lsT3 ?_ ?_ ?_ ?_), (((R1.2.fr (k := 24) rfl hFb).fr (k := 26) rfl hFc).fr (k := 20) rfl hF1).cg⟩
          · show some (rg 5 (nn (S.1 15 0 + 1))) = _
            rw [ei.1, rg_s]
          · show (if (nn (S.1 15 0)) < nn (S.1 15 0 + 1) then some (kpL (setS (pa (pa (pa (pa (pa (entP S s) 15 0 (S.1 15 0 + 1)) 16 (nn (S.1 15 0)) 1) 17 (nn (S.1 15 0)) s) 23 (nn (S.1 15 0)) 1) 24 (nn (S.1 15 0)) 1) (S.1 15 0) p k li mo) (nn (S.1 15 0))) else none) = _
            rw [if_pos (by omega)]
            unfold kpL kpI
            rw [fl_nil]
            · rfl
            · intro x hx q
              have q1 : S.1 49 x = nI (nn (S.1 15 0)) := (kpB_iff.mp q).2
              have q2 := (mw x hx).2
              rw [q1, nnI (by omega)] at q2
              exact Nat.lt_irrefl _ q2
          · show (if (nn (S.1 15 0)) < nn (S.1 15 0 + 1) then some (itL (setS (pa (pa (pa (pa (pa (entP S s) 15 0 (S.1 15 0 + 1)) 16 (nn (S.1 15 0)) 1) 17 (nn (S.1 15 0)) s) 23 (nn (S.1 15 0)) 1) 24 (nn (S.1 15 0)) 1) (S.1 15 0) p k li mo) (nn (S.1 15 0))) else none) = _
            rw [if_pos (by omega)]
            unfold itL itI
            rw [fl_nil]
            · rfl
            · intro x hx q
              have q1 : S.1 34 x = nI (nn (S.1 15 0)) := (siB_iff.mp q).2
              have q2 := (ow.2 x hx).2.1
              rw [q1, nnI (by omega)] at q2
              exact Nat.lt_irrefl _ q2
          · intro k' i hk hne hne1 hne2
            rcases lk_c hk with rfl | rfl | rfl | rfl | rfl
            · exact ls20 (j := 3) (fun q => hne2 ⟨rfl, q⟩) (Or.inl rfl) (Or.inl rfl) (Or.inl rfl) (Or.inr rfl) (Or.inl rfl) (Or.inl rfl)
            · exact ls22
            · exact up_if (fun q => hne ⟨rfl, q⟩) ei.1 rfl
            · exact up_if (fun q => hne1 ⟨rfl, q⟩) ei.1 rfl
            · exact ls28
        have en : nI (nn (S.1 15 0)) = S.1 15 0 := hq.2.1.symm
        rw [en]
        exact RES.of (q := op_subscribe S s p k li mo) (by rw [op_subscribe, if_pos (lack_ge.mpr hl), ent_0 hl, if_pos h_27, if_neg hq.2.2] <;> rfl) R2 (((hFb.fj (k := 24) rfl).tr (hFc.fj (k := 26) rfl)).tr (hF1.fj (k := 20) rfl))
      have hq := ct_ge c1.2.2.2.1 (by decide) 20 rfl c_46
      refine V_aload_n X dX8_subscribe_49 rfl rfl ?_
      refine V_bipush (v := (-8)) X dX8_subscribe_50 (by decide) ?_
      apply V_callV1 X dX8_subscribe_52 mk_X8_55 iv_X8_refuse (k_refuse l (S := entP S s) (by unfold vp_in; decide) (by decide))
      · exact at_root
      · exact rfl
      · exact Nat.le_of_ble_eq_true rfl
      · exact ⟨Nat.le_of_ble_eq_true rfl, Nat.le_of_ble_eq_true rfl⟩
      · exact ⟨by dsimp only [rmm]; omega, by dsimp only [rmm]; omega⟩
      rintro r I1 ⟨rfl, rfl⟩
      refine V_iret X dX8_subscribe_55 ?_ ?_ ?_ ?_
      · exact rfl
      · dsimp only [rmm]; omega
      · dsimp only [rmm]; omega
      exact RES.of (q := op_subscribe S s p k li mo) (by rw [op_subscribe, if_pos (lack_ge.mpr hl), ent_0 hl, if_pos h_27, if_pos hq] <;> rfl) R.cg FJ.rf
    have h_27 := bz_f c_27
    refine V_aload_n X dX8_subscribe_30 rfl rfl ?_
    refine V_bipush (v := (-7)) X dX8_subscribe_31 (by decide) ?_
    apply V_callV1 X dX8_subscribe_33 mk_X8_55 iv_X8_refuse (k_refuse l (S := entP S s) (by unfold vp_in; decide) (by decide))
    · exact at_root
    · exact rfl
    · exact Nat.le_of_ble_eq_true rfl
    · exact ⟨Nat.le_of_ble_eq_true rfl, Nat.le_of_ble_eq_true rfl⟩
    · exact ⟨by dsimp only [rmm]; omega, by dsimp only [rmm]; omega⟩
    rintro r I1 ⟨rfl, rfl⟩
    refine V_iret X dX8_subscribe_36 ?_ ?_ ?_ ?_
    · exact rfl
    · dsimp only [rmm]; omega
    · dsimp only [rmm]; omega
    exact RES.of (q := op_subscribe S s p k li mo) (by rw [op_subscribe, if_pos (lack_ge.mpr hl), ent_0 hl, if_neg h_27] <;> rfl) R.cg FJ.rf
  refine V_astore X dX8_subscribe_5 (by decide) rfl rfl ?_
  refine V_aload X dX8_subscribe_7 rfl rfl ?_
  refine V_ifnonnullN X dX8_subscribe_9 ?_
  refine V_aload_n X dX8_subscribe_12 rfl rfl ?_
  refine V_iload_n X dX8_subscribe_13 rfl ?_
  apply V_callV1 X dX8_subscribe_14 mk_X8_105 iv_X8_refuseSession (k_refS l c R.ml (lack_no hl))
  · exact at_root
  · exact rfl
  · exact Nat.le_of_ble_eq_true rfl
  · exact ⟨Nat.le_of_ble_eq_true rfl, Nat.le_of_ble_eq_true rfl⟩
  · exact ⟨by dsimp only [rmm]; omega, by dsimp only [rmm]; omega⟩
  rintro r I1 ⟨rfl, rfl⟩
  refine V_iret X dX8_subscribe_17 ?_ ?_ ?_ ?_
  · exact rfl
  · dsimp only [rmm]; omega
  · dsimp only [rmm]; omega
  exact RES.of (q := op_subscribe S s p k li mo) (by rw [op_subscribe, if_neg (fun q => hl (lack_ge.mp q)), ent_1 hl] <;> rfl) R.cg FJ.rf
set_option maxRecDepth 100000 in
set_option maxHeartbeats 4000000 in
theorem k_modify (l : Launch) {S : St} {Q : Nat → List Nat} {J : aH} {s b p k li mo : Int32} (c : CT S) (R : RJ S Q J) (ow : OW S) : AM l yX8_modify cX8_modify 9 (some .int) (rmm 5 0 0 109) [.ref rO, .int s, .int b, .int p, .int k, .int li, .int mo] (ovc S J) (RES (op_modify S s b p k li mo) J) := by
  refine AM_of RX8 (by decide) rfl [some (.ref rO), some (.int s), some (.int b), some (.int p), some (.int k), some (.int li), some (.int mo), none, none] rfl (Nat.le_of_ble_eq_true rfl) (fun Z X hNm => ?_)
  refine V_aload_n X dX8_modify_0 rfl rfl ?_
  refine V_iload_n X dX8_modify_1 rfl ?_
  apply V_callV1 X dX8_modify_2 mk_X8_112 iv_X8_enter (k_enter l c R.ml)
  · exact at_root
  · exact rfl
  · exact Nat.le_of_ble_eq_true rfl
  · exact ⟨Nat.le_of_ble_eq_true rfl, Nat.le_of_ble_eq_true rfl⟩
  · exact ⟨by dsimp only [rmm]; omega, by dsimp only [rmm]; omega⟩
  rintro r I1 (⟨hl, rfl, rfl⟩ | ⟨hl, rfl, rfl⟩)
  · have hs := lack_s hl
    have hi := (ses_ix hs).2
    have R1 : RJ (entP S s) Q J := R.cg
    have m1 := R1.ml
    have c1 : CT (entP S s) := c.cg
    refine V_astore X dX8_modify_5 (by decide) rfl rfl ?_
    refine V_aload X dX8_modify_7 rfl rfl ?_
    refine V_ifnonnull X dX8_modify_9 18 (by decide) ?_
    refine V_aload_n X dX8_modify_18 rfl rfl ?_
    refine V_aload X dX8_modify_19 rfl rfl ?_
    refine V_iload_n X dX8_modify_21 rfl ?_
    apply V_callV2 X dX8_modify_22 mk_X8_153 iv_X8_subscriptionOf (k_subOf l (S := entP S s) c.cg R1.ml ow.cg hs)
    · exact at_root
    · exact rfl
    · exact Nat.le_of_ble_eq_true rfl
    · exact ⟨Nat.le_of_ble_eq_true rfl, Nat.le_of_ble_eq_true rfl⟩
    · exact ⟨by dsimp only [rmm]; omega, by dsimp only [rmm]; omega⟩
    rintro r I1 ⟨rfl, ⟨hb, rfl⟩ | ⟨hb, rfl⟩⟩
    · have hj := (sub_ix (S := entP S s) hb.1.1).2
      refine V_astore X dX8_modify_25 (by decide) rfl rfl ?_
      refine V_aload X dX8_modify_27 rfl rfl ?_
      refine V_ifnonnull X dX8_modify_29 39 (by decide) ?_
      refine V_iload_n X dX8_modify_39 rfl ?_
      refine V_iload X dX8_modify_40 rfl ?_
      refine V_iload X dX8_modify_42 rfl ?_
      refine V_iload X dX8_modify_44 rfl ?_
      refine V_callS4 X dX8_modify_46 mk_X8_137 st_X7_mayHave (k_mayS l p k li mo) (Nat.le_of_ble_eq_true rfl) ⟨Nat.le_of_ble_eq_true rfl, Nat.le_of_ble_eq_true rfl⟩ ?_ ?_
      · exact ⟨by dsimp only [rmm]; omega, by dsimp only [rmm]; omega⟩
      rintro r I1 ⟨rfl, rfl⟩
      refine V_if_ne X dX8_modify_49 59 (by decide) (fun c_49 => ?_) (fun c_49 => ?_)
      · have h_49 := bz_t c_49
        refine V_aload X dX8_modify_59 rfl rfl ?_
        refine V_aload_n X dX8_modify_61 rfl rfl ?_
        apply V_get X dX8_modify_62 fk_X8_35
        · exact at_root
        · exact rfl
        refine V_iload_n X dX8_modify_65 rfl ?_
        refine V_iload X dX8_modify_66 rfl ?_
        refine V_iload X dX8_modify_68 rfl ?_
        refine V_iload X dX8_modify_70 rfl ?_
        apply V_callV5 X dX8_modify_72 mk_X8_146 iv_X7_begin (k_begin l (S := entP S s) hj)
        · exact at_sub (hj)
        · exact rfl
        · exact Nat.le_of_ble_eq_true rfl
        · exact ⟨Nat.le_of_ble_eq_true rfl, Nat.le_of_ble_eq_true rfl⟩
        · exact ⟨by dsimp only [rmm]; omega, by dsimp only [rmm]; omega⟩
        rintro r I1 ⟨rfl, rfl⟩
        refine V_iconst (v := 1) X dX8_modify_75 (by decide) ?_
        refine V_iret X dX8_modify_76 ?_ ?_ ?_ ?_
        · exact rfl
        · dsimp only [rmm]; omega
        · dsimp only [rmm]; omega
        exact RES.of (q := op_modify S s b p k li mo) (by rw [op_modify, if_pos (lkB_0 hl hb), ent_0 hl, if_pos h_49] <;> rfl) R.cg FJ.rf
      have h_49 := bz_f c_49
      refine V_aload_n X dX8_modify_52 rfl rfl ?_
      refine V_bipush (v := (-7)) X dX8_modify_53 (by decide) ?_
      apply V_callV1 X dX8_modify_55 mk_X8_55 iv_X8_refuse (k_refuse l (S := entP S s) (by unfold vp_in; decide) (by decide))
      · exact at_root
      · exact rfl
      · exact Nat.le_of_ble_eq_true rfl
      · exact ⟨Nat.le_of_ble_eq_true rfl, Nat.le_of_ble_eq_true rfl⟩
      · exact ⟨by dsimp only [rmm]; omega, by dsimp only [rmm]; omega⟩
      rintro r I1 ⟨rfl, rfl⟩
      refine V_iret X dX8_modify_58 ?_ ?_ ?_ ?_
      · exact rfl
      · dsimp only [rmm]; omega
      · dsimp only [rmm]; omega
      exact RES.of (q := op_modify S s b p k li mo) (by rw [op_modify, if_pos (lkB_0 hl hb), ent_0 hl, if_neg h_49] <;> rfl) R.cg FJ.rf
    refine V_astore X dX8_modify_25 (by decide) rfl rfl ?_
    refine V_aload X dX8_modify_27 rfl rfl ?_
    refine V_ifnonnullN X dX8_modify_29 ?_
    refine V_aload_n X dX8_modify_32 rfl rfl ?_
    refine V_bipush (v := (-5)) X dX8_modify_33 (by decide) ?_
    apply V_callV1 X dX8_modify_35 mk_X8_55 iv_X8_refuse (k_refuse l (S := entP S s) (by unfold vp_in; decide) (by decide))
    · exact at_root
    · exact rfl
    · exact Nat.le_of_ble_eq_true rfl
    · exact ⟨Nat.le_of_ble_eq_true rfl, Nat.le_of_ble_eq_true rfl⟩
    · exact ⟨by dsimp only [rmm]; omega, by dsimp only [rmm]; omega⟩
    rintro r I1 ⟨rfl, rfl⟩
    refine V_iret X dX8_modify_38 ?_ ?_ ?_ ?_
    · exact rfl
    · dsimp only [rmm]; omega
    · dsimp only [rmm]; omega
    exact RES.of (q := op_modify S s b p k li mo) (by rw [op_modify, if_neg (lkB_5 hl hb).2, (lkB_5 hl hb).1, ent_0 hl] <;> rfl) R.cg FJ.rf
  refine V_astore X dX8_modify_5 (by decide) rfl rfl ?_
  refine V_aload X dX8_modify_7 rfl rfl ?_
  refine V_ifnonnullN X dX8_modify_9 ?_
  refine V_aload_n X dX8_modify_12 rfl rfl ?_
  refine V_iload_n X dX8_modify_13 rfl ?_
  apply V_callV1 X dX8_modify_14 mk_X8_105 iv_X8_refuseSession (k_refS l c R.ml (lack_no hl))
  · exact at_root
  · exact rfl
  · exact Nat.le_of_ble_eq_true rfl
  · exact ⟨Nat.le_of_ble_eq_true rfl, Nat.le_of_ble_eq_true rfl⟩
  · exact ⟨by dsimp only [rmm]; omega, by dsimp only [rmm]; omega⟩
  rintro r I1 ⟨rfl, rfl⟩
  refine V_iret X dX8_modify_17 ?_ ?_ ?_ ?_
  · exact rfl
  · dsimp only [rmm]; omega
  · dsimp only [rmm]; omega
  exact RES.of (q := op_modify S s b p k li mo) (by rw [op_modify, if_neg (lkB_n hl).2, (lkB_n hl).1, ent_1 hl] <;> rfl) R.cg FJ.rf
set_option maxRecDepth 100000 in
set_option maxHeartbeats 4000000 in
theorem k_turn (l : Launch) {S : St} {Q : Nat → List Nat} {J : aH} {s b on : Int32} (c : CT S) (R : RJ S Q J) (ow : OW S) (hon : on = 0 ∨ on = 1) : AM l yX8_turn cX8_turn 7 (some .int) (rmm 5 0 0 109) [.ref rO, .int s, .int b, .int on] (ovc S J) (RES (op_turn S s b on) J) := by
  refine AM_of RX8 (by decide) rfl [some (.ref rO), some (.int s), some (.int b), some (.int on), none, none, none] rfl (Nat.le_of_ble_eq_true rfl) (fun Z X hNm => ?_)
  refine V_aload_n X dX8_turn_0 rfl rfl ?_
  refine V_iload_n X dX8_turn_1 rfl ?_
  apply V_callV1 X dX8_turn_2 mk_X8_112 iv_X8_enter (k_enter l c R.ml)
  · exact at_root
  · exact rfl
  · exact Nat.le_of_ble_eq_true rfl
  · exact ⟨Nat.le_of_ble_eq_true rfl, Nat.le_of_ble_eq_true rfl⟩
  · exact ⟨by dsimp only [rmm]; omega, by dsimp only [rmm]; omega⟩
  rintro r I1 (⟨hl, rfl, rfl⟩ | ⟨hl, rfl, rfl⟩)
  · have hs := lack_s hl
    have hi := (ses_ix hs).2
    have R1 : RJ (entP S s) Q J := R.cg
    have m1 := R1.ml
    have c1 : CT (entP S s) := c.cg
    refine V_astore X dX8_turn_5 (by decide) rfl rfl ?_
    refine V_aload X dX8_turn_7 rfl rfl ?_
    refine V_ifnonnull X dX8_turn_9 18 (by decide) ?_
    refine V_aload_n X dX8_turn_18 rfl rfl ?_
    refine V_aload X dX8_turn_19 rfl rfl ?_
    refine V_iload_n X dX8_turn_21 rfl ?_
    apply V_callV2 X dX8_turn_22 mk_X8_153 iv_X8_subscriptionOf (k_subOf l (S := entP S s) c.cg R1.ml ow.cg hs)
    · exact at_root
    · exact rfl
    · exact Nat.le_of_ble_eq_true rfl
    · exact ⟨Nat.le_of_ble_eq_true rfl, Nat.le_of_ble_eq_true rfl⟩
    · exact ⟨by dsimp only [rmm]; omega, by dsimp only [rmm]; omega⟩
    rintro r I1 ⟨rfl, ⟨hb, rfl⟩ | ⟨hb, rfl⟩⟩
    · have hj := (sub_ix (S := entP S s) hb.1.1).2
      refine V_astore X dX8_turn_25 (by decide) rfl rfl ?_
      refine V_aload X dX8_turn_27 rfl rfl ?_
      refine V_ifnonnull X dX8_turn_29 39 (by decide) ?_
      refine V_aload X dX8_turn_39 rfl rfl ?_
      apply V_get X dX8_turn_41 fk_X8_157
      · exact at_sub (by assumption)
      · exact rfl
      refine V_iload_n X dX8_turn_44 rfl ?_
      refine V_icmp_eq X dX8_turn_45 52 (by decide) (fun c_45 => ?_) (fun c_45 => ?_)
      · refine V_iconst (v := 0) X dX8_turn_52 (by decide) ?_
        refine V_istore X dX8_turn_53 (by decide) rfl ?_
        refine V_aload X dX8_turn_55 rfl rfl ?_
        refine V_iload_n X dX8_turn_57 rfl ?_
        refine P5_9 X dX8_turn_58 fk_X8_157 (by assumption) (hon) ?_
        refine V_aload X dX8_turn_61 rfl rfl ?_
        refine V_aload X dX8_turn_63 rfl rfl ?_
        apply V_get X dX8_turn_65 fk_X8_161
        · exact at_sub (by assumption)
        · exact rfl
        refine P5_12 X dX8_turn_68 fk_X8_164 (by assumption) ?_
        refine V_iload X dX8_turn_71 rfl ?_
        refine V_callS1 X dX8_turn_73 mk_X8_167 st_X8_asNumber (k_num l 0) (Nat.le_of_ble_eq_true rfl) ⟨Nat.le_of_ble_eq_true rfl, Nat.le_of_ble_eq_true rfl⟩ ?_ ?_
        · exact ⟨by dsimp only [rmm]; omega, by dsimp only [rmm]; omega⟩
        rintro r I1 ⟨rfl, rfl⟩
        refine V_iret X dX8_turn_76 ?_ ?_ ?_ ?_
        · exact rfl
        · dsimp only [rmm]; omega
        · dsimp only [rmm]; omega
        exact RES.of (q := op_turn S s b on) (by rw [op_turn, if_pos (lkB_0 hl hb), ent_0 hl, if_pos c_45] <;> rfl) R.cg FJ.rf
      refine V_iconst (v := 1) X dX8_turn_48 (by decide) ?_
      refine V_goto X dX8_turn_49 53 (by decide) ?_
      refine V_istore X dX8_turn_53 (by decide) rfl ?_
      refine V_aload X dX8_turn_55 rfl rfl ?_
      refine V_iload_n X dX8_turn_57 rfl ?_
      refine P5_9 X dX8_turn_58 fk_X8_157 (by assumption) (hon) ?_
      refine V_aload X dX8_turn_61 rfl rfl ?_
      refine V_aload X dX8_turn_63 rfl rfl ?_
      apply V_get X dX8_turn_65 fk_X8_161
      · exact at_sub (by assumption)
      · exact rfl
      refine P5_12 X dX8_turn_68 fk_X8_164 (by assumption) ?_
      refine V_iload X dX8_turn_71 rfl ?_
      refine V_callS1 X dX8_turn_73 mk_X8_167 st_X8_asNumber (k_num l 1) (Nat.le_of_ble_eq_true rfl) ⟨Nat.le_of_ble_eq_true rfl, Nat.le_of_ble_eq_true rfl⟩ ?_ ?_
      · exact ⟨by dsimp only [rmm]; omega, by dsimp only [rmm]; omega⟩
      rintro r I1 ⟨rfl, rfl⟩
      refine V_iret X dX8_turn_76 ?_ ?_ ?_ ?_
      · exact rfl
      · dsimp only [rmm]; omega
      · dsimp only [rmm]; omega
      exact RES.of (q := op_turn S s b on) (by rw [op_turn, if_pos (lkB_0 hl hb), ent_0 hl, if_neg c_45] <;> rfl) R.cg FJ.rf
    refine V_astore X dX8_turn_25 (by decide) rfl rfl ?_
    refine V_aload X dX8_turn_27 rfl rfl ?_
    refine V_ifnonnullN X dX8_turn_29 ?_
    refine V_aload_n X dX8_turn_32 rfl rfl ?_
    refine V_bipush (v := (-5)) X dX8_turn_33 (by decide) ?_
    apply V_callV1 X dX8_turn_35 mk_X8_55 iv_X8_refuse (k_refuse l (S := entP S s) (by unfold vp_in; decide) (by decide))
    · exact at_root
    · exact rfl
    · exact Nat.le_of_ble_eq_true rfl
    · exact ⟨Nat.le_of_ble_eq_true rfl, Nat.le_of_ble_eq_true rfl⟩
    · exact ⟨by dsimp only [rmm]; omega, by dsimp only [rmm]; omega⟩
    rintro r I1 ⟨rfl, rfl⟩
    refine V_iret X dX8_turn_38 ?_ ?_ ?_ ?_
    · exact rfl
    · dsimp only [rmm]; omega
    · dsimp only [rmm]; omega
    exact RES.of (q := op_turn S s b on) (by rw [op_turn, if_neg (lkB_5 hl hb).2, (lkB_5 hl hb).1, ent_0 hl] <;> rfl) R.cg FJ.rf
  refine V_astore X dX8_turn_5 (by decide) rfl rfl ?_
  refine V_aload X dX8_turn_7 rfl rfl ?_
  refine V_ifnonnullN X dX8_turn_9 ?_
  refine V_aload_n X dX8_turn_12 rfl rfl ?_
  refine V_iload_n X dX8_turn_13 rfl ?_
  apply V_callV1 X dX8_turn_14 mk_X8_105 iv_X8_refuseSession (k_refS l c R.ml (lack_no hl))
  · exact at_root
  · exact rfl
  · exact Nat.le_of_ble_eq_true rfl
  · exact ⟨Nat.le_of_ble_eq_true rfl, Nat.le_of_ble_eq_true rfl⟩
  · exact ⟨by dsimp only [rmm]; omega, by dsimp only [rmm]; omega⟩
  rintro r I1 ⟨rfl, rfl⟩
  refine V_iret X dX8_turn_17 ?_ ?_ ?_ ?_
  · exact rfl
  · dsimp only [rmm]; omega
  · dsimp only [rmm]; omega
  exact RES.of (q := op_turn S s b on) (by rw [op_turn, if_neg (lkB_n hl).2, (lkB_n hl).1, ent_1 hl] <;> rfl) R.cg FJ.rf
set_option maxRecDepth 100000 in
set_option maxHeartbeats 4000000 in
theorem k_transfer (l : Launch) {S : St} {Q : Nat → List Nat} {J : aH} {s b : Int32} (c : CT S) (R : RJ S Q J) (ow : OW S) : AM l yX8_transfer cX8_transfer 6 (some .int) (rmm 5 0 0 107) [.ref rO, .int s, .int b] (ovc S J) (RES (op_transfer S s b) J) := by
  refine AM_of RX8 (by decide) rfl [some (.ref rO), some (.int s), some (.int b), none, none, none] rfl (Nat.le_of_ble_eq_true rfl) (fun Z X hNm => ?_)
  refine V_aload_n X dX8_transfer_0 rfl rfl ?_
  refine V_iload_n X dX8_transfer_1 rfl ?_
  apply V_callV1 X dX8_transfer_2 mk_X8_112 iv_X8_enter (k_enter l c R.ml)
  · exact at_root
  · exact rfl
  · exact Nat.le_of_ble_eq_true rfl
  · exact ⟨Nat.le_of_ble_eq_true rfl, Nat.le_of_ble_eq_true rfl⟩
  · exact ⟨by dsimp only [rmm]; omega, by dsimp only [rmm]; omega⟩
  rintro r I1 (⟨hl, rfl, rfl⟩ | ⟨hl, rfl, rfl⟩)
  · have hs := lack_s hl
    have hi := (ses_ix hs).2
    have R1 : RJ (entP S s) Q J := R.cg
    have m1 := R1.ml
    have c1 : CT (entP S s) := c.cg
    refine V_astore_n X dX8_transfer_5 (by decide) rfl rfl ?_
    refine V_aload_n X dX8_transfer_6 rfl rfl ?_
    refine V_ifnonnull X dX8_transfer_7 16 (by decide) ?_
    refine V_aload_n X dX8_transfer_16 rfl rfl ?_
    refine V_iload_n X dX8_transfer_17 rfl ?_
    apply V_callV1 X dX8_transfer_18 mk_X8_171 iv_X8_subscriptionAt (k_subAt l (S := entP S s) c.cg R1.ml)
    · exact at_root
    · exact rfl
    · exact Nat.le_of_ble_eq_true rfl
    · exact ⟨Nat.le_of_ble_eq_true rfl, Nat.le_of_ble_eq_true rfl⟩
    · exact ⟨by dsimp only [rmm]; omega, by dsimp only [rmm]; omega⟩
    rintro r I1 ⟨rfl, ⟨hb, rfl⟩ | ⟨hb, rfl⟩⟩
    · have hj := (sub_ix (S := entP S s) hb.1).2
      have hw := (OW.cg (S' := entP S s) ow).1 _ hj
      refine V_astore X dX8_transfer_21 (by decide) rfl rfl ?_
      refine V_aload X dX8_transfer_23 rfl rfl ?_
      refine V_ifnonnull X dX8_transfer_25 35 (by decide) ?_
      refine V_aload X dX8_transfer_35 rfl rfl ?_
      apply V_get X dX8_transfer_37 fk_X8_175
      · exact at_sub (by assumption)
      · exact rfl
      refine V_aload_n X dX8_transfer_40 rfl rfl ?_
      refine V_acmp_eq X dX8_transfer_41 48 (by decide) (Or.inl (ne_ses (S := entP S s) hw.2)) (Or.inl (ne_ses (S := entP S s) hi)) (fun c_41 => ?_) (fun c_41 => ?_)
      · have hx : (entP S s).1 17 (nn b) = s := own_eq hw.1 (ses_ix hs).1 c_41
        refine V_iconst (v := 0) X dX8_transfer_48 (by decide) ?_
        refine V_istore X dX8_transfer_49 (by decide) rfl ?_
        refine V_aload X dX8_transfer_51 rfl rfl ?_
        refine V_aload_n X dX8_transfer_53 rfl rfl ?_
        refine P5_3 X dX8_transfer_54 fk_X8_175 (by assumption) (rfl) ?_
        refine V_aload X dX8_transfer_57 rfl rfl ?_
        refine V_aload X dX8_transfer_59 rfl rfl ?_
        apply V_get X dX8_transfer_61 fk_X8_161
        · exact at_sub (by assumption)
        · exact rfl
        refine P5_12 X dX8_transfer_64 fk_X8_164 (by assumption) ?_
        refine V_iload X dX8_transfer_67 rfl ?_
        refine V_callS1 X dX8_transfer_69 mk_X8_167 st_X8_asNumber (k_num l 0) (Nat.le_of_ble_eq_true rfl) ⟨Nat.le_of_ble_eq_true rfl, Nat.le_of_ble_eq_true rfl⟩ ?_ ?_
        · exact ⟨by dsimp only [rmm]; omega, by dsimp only [rmm]; omega⟩
        rintro r I1 ⟨rfl, rfl⟩
        refine V_iret X dX8_transfer_72 ?_ ?_ ?_ ?_
        · exact rfl
        · dsimp only [rmm]; omega
        · dsimp only [rmm]; omega
        exact RES.of (q := op_transfer S s b) (by rw [op_transfer, if_pos (lack_ge.mpr hl), ent_0 hl, if_pos hb, if_pos hx] <;> rfl) R.cg FJ.rf
      have hx : ¬ (entP S s).1 17 (nn b) = s := fun q => c_41 (own_ne q)
      refine V_iconst (v := 1) X dX8_transfer_44 (by decide) ?_
      refine V_goto X dX8_transfer_45 49 (by decide) ?_
      refine V_istore X dX8_transfer_49 (by decide) rfl ?_
      refine V_aload X dX8_transfer_51 rfl rfl ?_
      refine V_aload_n X dX8_transfer_53 rfl rfl ?_
      refine P5_3 X dX8_transfer_54 fk_X8_175 (by assumption) (rfl) ?_
      refine V_aload X dX8_transfer_57 rfl rfl ?_
      refine V_aload X dX8_transfer_59 rfl rfl ?_
      apply V_get X dX8_transfer_61 fk_X8_161
      · exact at_sub (by assumption)
      · exact rfl
      refine P5_12 X dX8_transfer_64 fk_X8_164 (by assumption) ?_
      refine V_iload X dX8_transfer_67 rfl ?_
      refine V_callS1 X dX8_transfer_69 mk_X8_167 st_X8_asNumber (k_num l 1) (Nat.le_of_ble_eq_true rfl) ⟨Nat.le_of_ble_eq_true rfl, Nat.le_of_ble_eq_true rfl⟩ ?_ ?_
      · exact ⟨by dsimp only [rmm]; omega, by dsimp only [rmm]; omega⟩
      rintro r I1 ⟨rfl, rfl⟩
      refine V_iret X dX8_transfer_72 ?_ ?_ ?_ ?_
      · exact rfl
      · dsimp only [rmm]; omega
      · dsimp only [rmm]; omega
      exact RES.of (q := op_transfer S s b) (by rw [op_transfer, if_pos (lack_ge.mpr hl), ent_0 hl, if_pos hb, if_neg hx] <;> rfl) R.cg FJ.rf
    refine V_astore X dX8_transfer_21 (by decide) rfl rfl ?_
    refine V_aload X dX8_transfer_23 rfl rfl ?_
    refine V_ifnonnullN X dX8_transfer_25 ?_
    refine V_aload_n X dX8_transfer_28 rfl rfl ?_
    refine V_bipush (v := (-5)) X dX8_transfer_29 (by decide) ?_
    apply V_callV1 X dX8_transfer_31 mk_X8_55 iv_X8_refuse (k_refuse l (S := entP S s) (by unfold vp_in; decide) (by decide))
    · exact at_root
    · exact rfl
    · exact Nat.le_of_ble_eq_true rfl
    · exact ⟨Nat.le_of_ble_eq_true rfl, Nat.le_of_ble_eq_true rfl⟩
    · exact ⟨by dsimp only [rmm]; omega, by dsimp only [rmm]; omega⟩
    rintro r I1 ⟨rfl, rfl⟩
    refine V_iret X dX8_transfer_34 ?_ ?_ ?_ ?_
    · exact rfl
    · dsimp only [rmm]; omega
    · dsimp only [rmm]; omega
    exact RES.of (q := op_transfer S s b) (by rw [op_transfer, if_pos (lack_ge.mpr hl), ent_0 hl, if_neg hb] <;> rfl) R.cg FJ.rf
  refine V_astore_n X dX8_transfer_5 (by decide) rfl rfl ?_
  refine V_aload_n X dX8_transfer_6 rfl rfl ?_
  refine V_ifnonnullN X dX8_transfer_7 ?_
  refine V_aload_n X dX8_transfer_10 rfl rfl ?_
  refine V_iload_n X dX8_transfer_11 rfl ?_
  apply V_callV1 X dX8_transfer_12 mk_X8_105 iv_X8_refuseSession (k_refS l c R.ml (lack_no hl))
  · exact at_root
  · exact rfl
  · exact Nat.le_of_ble_eq_true rfl
  · exact ⟨Nat.le_of_ble_eq_true rfl, Nat.le_of_ble_eq_true rfl⟩
  · exact ⟨by dsimp only [rmm]; omega, by dsimp only [rmm]; omega⟩
  rintro r I1 ⟨rfl, rfl⟩
  refine V_iret X dX8_transfer_15 ?_ ?_ ?_ ?_
  · exact rfl
  · dsimp only [rmm]; omega
  · dsimp only [rmm]; omega
  exact RES.of (q := op_transfer S s b) (by rw [op_transfer, if_neg (fun q => hl (lack_ge.mp q)), ent_1 hl] <;> rfl) R.cg FJ.rf
