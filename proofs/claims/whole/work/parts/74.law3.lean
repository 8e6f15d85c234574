theorem sub10 {n : Nat} (h : n ≤ 5120) : (nI n - 10).toInt = (n : Int) - 10 := by
  by_cases h10 : 10 ≤ n
  · rw [show (10 : Int32) = nI 10 from rfl, pk_sub h10, nI_int (by omega)]
    omega
  · have : n = 0 ∨ n = 1 ∨ n = 2 ∨ n = 3 ∨ n = 4 ∨ n = 5 ∨ n = 6 ∨ n = 7 ∨ n = 8 ∨ n = 9 := by omega
    rcases this with rfl | rfl | rfl | rfl | rfl | rfl | rfl | rfl | rfl | rfl <;> decide
theorem up10 {n i : Nat} (h : n ≤ 5120) (hi : i ≤ 5130) (c : ¬ nI n - 10 < nI i) : i + 10 ≤ n := by
  rw [fa_lt, sub10 h, nI_int (by omega)] at c
  omega
set_option maxRecDepth 100000 in
set_option maxHeartbeats 4000000 in
theorem law_next {l : Launch} {Z : Zt} {j : Nat} {I : aH} {cells slots : Nat} (X : Fx Z l room_1 cL_law 4 RL (some .boolean) LQ) (k : V Z 4 I [some (.ref scr), some (.ref rO), some (.ref mO), some (.int (nI (10 * (j + 1))))] [] cells slots 18) : V Z 4 I [some (.ref scr), some (.ref rO), some (.ref mO), some (.int (nI (10 * j)))] [] cells slots 1385 := by
  refine V_iinc X dL_law_1385 rfl (by decide) rfl (nI (10 * (j + 1))) (by rw [show Int32.ofInt 10 = nI 10 from rfl, nI_add]; rfl) ?_
  refine V_goto X dL_law_1388 18 (by decide) ?_
  exact k
theorem LI.same {n : Nat} {f : Nat → Int32} {j : Nat} {S : St} {I : aH} {cells slots : Nat} (L : LI n f j S I cells slots) (hj : j + 1 ≤ 512) : LI n f (j + 1) S I cells slots := by
  obtain ⟨Q, J, h1, R, hM, hs, IS, hcc, hss⟩ := L
  exact ⟨Q, J, h1, R, hM, hs, up1 IS hj, by omega, by omega⟩
set_option maxRecDepth 100000 in
set_option maxHeartbeats 4000000 in
theorem law_loop {l : Launch} {Z : Zt} {n : Nat} {f : Nat → Int32} (hn : n ≤ 5120) (X : Fx Z l room_1 cL_law 4 RL (some .boolean) LQ) : ∀ (m j : Nat) (S : St) (I : aH) (cells slots : Nat), 513 - j < m → j ≤ 512 → LI n f j S I cells slots → V Z 4 I [some (.ref scr), some (.ref rO), some (.ref mO), some (.int (nI (10 * j)))] [] cells slots 18
  | 0, j, S, I, cells, slots, h, _, _ => absurd h (Nat.not_lt_zero _)
  | m + 1, j, S, I, cells, slots, hm, hj5, L => by
    have hs1 : I scr = some (.inl (0, aI n f)) := by
      obtain ⟨Q, J, rfl, R, hM, hs, -⟩ := L
      exact (ovc_k (k := 0) rfl).trans hs
    have hcs : cells ≤ 600000 ∧ slots ≤ 7302249 := by
      obtain ⟨Q, J, rfl, R, hM, hs, IS, hcc, hss⟩ := L
      have := IS.ub
      omega
    refine V_iload_n X dL_law_18 rfl ?_
    refine V_aload_n X dL_law_19 rfl rfl ?_
    apply V_alen (t := 0) X dL_law_20 (fun _ => rfl)
    · exact hs1
    refine V_bipush (v := 10) X dL_law_21 (by decide) ?_
    refine V_isub X dL_law_23 ?_
    refine V_icmp_gt X dL_law_24 1391 (by decide) (fun c_24 => ?_) (fun c_24 => ?_)
    · refine V_iconst (v := 1) X dL_law_1391 (by decide) ?_
      refine V_iret X dL_law_1392 ?_ ?_ ?_ ?_
      · exact rfl
      · dsimp only [rmm, room_1]; omega
      · dsimp only [rmm, room_1]; omega
      exact rfl
    have hj : 10 * j + 10 ≤ n := up10 hn (by omega) c_24
    refine V_aload_n X dL_law_27 rfl rfl ?_
    refine V_iload_n X dL_law_28 rfl ?_
    apply V_iaload X dL_law_29
    · exact hs1
    · exact sc_in0 hj hn
    refine V_bipush (v := 31) X dL_law_30 (by decide) ?_
    refine V_iand X dL_law_32 ?_
    by_cases t_33_0 : f (nI (10 * j)).toNatClampNeg &&& 31 = 0
    · refine V_tableIn (off := 131) X dL_law_33 (by rw [t_33_0]; decide) (by rw [t_33_0]; decide) (by rw [t_33_0]; rfl) 164 (by decide) ?_
      exact lw_case_node X hn hj L (fun S' I' c' s' L' => law_next X (law_loop hn X m (j + 1) S' I' c' s' (by omega) (by omega) L'))
    by_cases t_33_1 : f (nI (10 * j)).toNatClampNeg &&& 31 = 1
    · refine V_tableIn (off := 154) X dL_law_33 (by rw [t_33_1]; decide) (by rw [t_33_1]; decide) (by rw [t_33_1]; rfl) 187 (by decide) ?_
      exact lw_case_refer X hn hj L (fun S' I' c' s' L' => law_next X (law_loop hn X m (j + 1) S' I' c' s' (by omega) (by omega) L'))
    by_cases t_33_2 : f (nI (10 * j)).toNatClampNeg &&& 31 = 2
    · refine V_tableIn (off := 197) X dL_law_33 (by rw [t_33_2]; decide) (by rw [t_33_2]; decide) (by rw [t_33_2]; rfl) 230 (by decide) ?_
      exact lw_case_change X hn hj L (fun S' I' c' s' L' => law_next X (law_loop hn X m (j + 1) S' I' c' s' (by omega) (by omega) L'))
    by_cases t_33_3 : f (nI (10 * j)).toNatClampNeg &&& 31 = 3
    · refine V_tableIn (off := 260) X dL_law_33 (by rw [t_33_3]; decide) (by rw [t_33_3]; decide) (by rw [t_33_3]; rfl) 293 (by decide) ?_
      exact lw_case_tick X hn hj L (fun S' I' c' s' L' => law_next X (law_loop hn X m (j + 1) S' I' c' s' (by omega) (by omega) L'))
    by_cases t_33_4 : f (nI (10 * j)).toNatClampNeg &&& 31 = 4
    · refine V_tableIn (off := 283) X dL_law_33 (by rw [t_33_4]; decide) (by rw [t_33_4]; decide) (by rw [t_33_4]; rfl) 316 (by decide) ?_
      exact lw_case_session X hn hj L (fun S' I' c' s' L' => law_next X (law_loop hn X m (j + 1) S' I' c' s' (by omega) (by omega) L'))
    by_cases t_33_5 : f (nI (10 * j)).toNatClampNeg &&& 31 = 5
    · refine V_tableIn (off := 306) X dL_law_33 (by rw [t_33_5]; decide) (by rw [t_33_5]; decide) (by rw [t_33_5]; rfl) 339 (by decide) ?_
      exact lw_case_activate X hn hj L (fun S' I' c' s' L' => law_next X (law_loop hn X m (j + 1) S' I' c' s' (by omega) (by omega) L'))
    by_cases t_33_6 : f (nI (10 * j)).toNatClampNeg &&& 31 = 6
    · refine V_tableIn (off := 329) X dL_law_33 (by rw [t_33_6]; decide) (by rw [t_33_6]; decide) (by rw [t_33_6]; rfl) 362 (by decide) ?_
      exact lw_case_close X hn hj L (fun S' I' c' s' L' => law_next X (law_loop hn X m (j + 1) S' I' c' s' (by omega) (by omega) L'))
    by_cases t_33_7 : f (nI (10 * j)).toNatClampNeg &&& 31 = 7
    · refine V_tableIn (off := 352) X dL_law_33 (by rw [t_33_7]; decide) (by rw [t_33_7]; decide) (by rw [t_33_7]; rfl) 385 (by decide) ?_
      exact lw_case_browse X hn hj L (fun S' I' c' s' L' => law_next X (law_loop hn X m (j + 1) S' I' c' s' (by omega) (by omega) L'))
    by_cases t_33_8 : f (nI (10 * j)).toNatClampNeg &&& 31 = 8
    · refine V_tableIn (off := 415) X dL_law_33 (by rw [t_33_8]; decide) (by rw [t_33_8]; decide) (by rw [t_33_8]; rfl) 448 (by decide) ?_
      exact lw_case_read X hn hj L (fun S' I' c' s' L' => law_next X (law_loop hn X m (j + 1) S' I' c' s' (by omega) (by omega) L'))
    by_cases t_33_9 : f (nI (10 * j)).toNatClampNeg &&& 31 = 9
    · refine V_tableIn (off := 448) X dL_law_33 (by rw [t_33_9]; decide) (by rw [t_33_9]; decide) (by rw [t_33_9]; rfl) 481 (by decide) ?_
      exact lw_case_value X hn hj L (fun S' I' c' s' L' => law_next X (law_loop hn X m (j + 1) S' I' c' s' (by omega) (by omega) L'))
    by_cases t_33_10 : f (nI (10 * j)).toNatClampNeg &&& 31 = 10
    · refine V_tableIn (off := 462) X dL_law_33 (by rw [t_33_10]; decide) (by rw [t_33_10]; decide) (by rw [t_33_10]; rfl) 495 (by decide) ?_
      exact lw_case_write X hn hj L (fun S' I' c' s' L' => law_next X (law_loop hn X m (j + 1) S' I' c' s' (by omega) (by omega) L'))
    by_cases t_33_11 : f (nI (10 * j)).toNatClampNeg &&& 31 = 11
    · refine V_tableIn (off := 535) X dL_law_33 (by rw [t_33_11]; decide) (by rw [t_33_11]; decide) (by rw [t_33_11]; rfl) 568 (by decide) ?_
      exact lw_case_subscribe X hn hj L (fun S' I' c' s' L' => law_next X (law_loop hn X m (j + 1) S' I' c' s' (by omega) (by omega) L'))
    by_cases t_33_12 : f (nI (10 * j)).toNatClampNeg &&& 31 = 12
    · refine V_tableIn (off := 598) X dL_law_33 (by rw [t_33_12]; decide) (by rw [t_33_12]; decide) (by rw [t_33_12]; rfl) 631 (by decide) ?_
      exact lw_case_modify X hn hj L (fun S' I' c' s' L' => law_next X (law_loop hn X m (j + 1) S' I' c' s' (by omega) (by omega) L'))
    by_cases t_33_13 : f (nI (10 * j)).toNatClampNeg &&& 31 = 13
    · refine V_tableIn (off := 673) X dL_law_33 (by rw [t_33_13]; decide) (by rw [t_33_13]; decide) (by rw [t_33_13]; rfl) 706 (by decide) ?_
      exact lw_case_turn X hn hj L (fun S' I' c' s' L' => law_next X (law_loop hn X m (j + 1) S' I' c' s' (by omega) (by omega) L'))
    by_cases t_33_14 : f (nI (10 * j)).toNatClampNeg &&& 31 = 14
    · refine V_tableIn (off := 732) X dL_law_33 (by rw [t_33_14]; decide) (by rw [t_33_14]; decide) (by rw [t_33_14]; rfl) 765 (by decide) ?_
      exact lw_case_transfer X hn hj L (fun S' I' c' s' L' => law_next X (law_loop hn X m (j + 1) S' I' c' s' (by omega) (by omega) L'))
    by_cases t_33_15 : f (nI (10 * j)).toNatClampNeg &&& 31 = 15
    · refine V_tableIn (off := 765) X dL_law_33 (by rw [t_33_15]; decide) (by rw [t_33_15]; decide) (by rw [t_33_15]; rfl) 798 (by decide) ?_
      exact lw_case_unsub X hn hj L (fun S' I' c' s' L' => law_next X (law_loop hn X m (j + 1) S' I' c' s' (by omega) (by omega) L'))
    by_cases t_33_16 : f (nI (10 * j)).toNatClampNeg &&& 31 = 16
    · refine V_tableIn (off := 798) X dL_law_33 (by rw [t_33_16]; decide) (by rw [t_33_16]; decide) (by rw [t_33_16]; rfl) 831 (by decide) ?_
      exact lw_case_item X hn hj L (fun S' I' c' s' L' => law_next X (law_loop hn X m (j + 1) S' I' c' s' (by omega) (by omega) L'))
    by_cases t_33_17 : f (nI (10 * j)).toNatClampNeg &&& 31 = 17
    · refine V_tableIn (off := 945) X dL_law_33 (by rw [t_33_17]; decide) (by rw [t_33_17]; decide) (by rw [t_33_17]; rfl) 978 (by decide) ?_
      exact lw_case_mode X hn hj L (fun S' I' c' s' L' => law_next X (law_loop hn X m (j + 1) S' I' c' s' (by omega) (by omega) L'))
    by_cases t_33_18 : f (nI (10 * j)).toNatClampNeg &&& 31 = 18
    · refine V_tableIn (off := 988) X dL_law_33 (by rw [t_33_18]; decide) (by rw [t_33_18]; decide) (by rw [t_33_18]; rfl) 1021 (by decide) ?_
      exact lw_case_drop X hn hj L (fun S' I' c' s' L' => law_next X (law_loop hn X m (j + 1) S' I' c' s' (by omega) (by omega) L'))
    by_cases t_33_19 : f (nI (10 * j)).toNatClampNeg &&& 31 = 19
    · refine V_tableIn (off := 1021) X dL_law_33 (by rw [t_33_19]; decide) (by rw [t_33_19]; decide) (by rw [t_33_19]; rfl) 1054 (by decide) ?_
      exact lw_case_publish X hn hj L (fun S' I' c' s' L' => law_next X (law_loop hn X m (j + 1) S' I' c' s' (by omega) (by omega) L'))
    by_cases t_33_20 : f (nI (10 * j)).toNatClampNeg &&& 31 = 20
    · refine V_tableIn (off := 1064) X dL_law_33 (by rw [t_33_20]; decide) (by rw [t_33_20]; decide) (by rw [t_33_20]; rfl) 1097 (by decide) ?_
      exact lw_case_acked X hn hj L (fun S' I' c' s' L' => law_next X (law_loop hn X m (j + 1) S' I' c' s' (by omega) (by omega) L'))
    by_cases t_33_21 : f (nI (10 * j)).toNatClampNeg &&& 31 = 21
    · refine V_tableIn (off := 1077) X dL_law_33 (by rw [t_33_21]; decide) (by rw [t_33_21]; decide) (by rw [t_33_21]; rfl) 1110 (by decide) ?_
      exact lw_case_again X hn hj L (fun S' I' c' s' L' => law_next X (law_loop hn X m (j + 1) S' I' c' s' (by omega) (by omega) L'))
    by_cases t_33_22 : f (nI (10 * j)).toNatClampNeg &&& 31 = 22
    · refine V_tableIn (off := 1120) X dL_law_33 (by rw [t_33_22]; decide) (by rw [t_33_22]; decide) (by rw [t_33_22]; rfl) 1153 (by decide) ?_
      exact lw_case_mail X hn hj L (fun S' I' c' s' L' => law_next X (law_loop hn X m (j + 1) S' I' c' s' (by omega) (by omega) L'))
    by_cases t_33_23 : f (nI (10 * j)).toNatClampNeg &&& 31 = 23
    · refine V_tableIn (off := 1153) X dL_law_33 (by rw [t_33_23]; decide) (by rw [t_33_23]; decide) (by rw [t_33_23]; rfl) 1186 (by decide) ?_
      exact lw_case_message X hn hj L (fun S' I' c' s' L' => law_next X (law_loop hn X m (j + 1) S' I' c' s' (by omega) (by omega) L'))
    by_cases t_33_24 : f (nI (10 * j)).toNatClampNeg &&& 31 = 24
    · refine V_tableIn (off := 1186) X dL_law_33 (by rw [t_33_24]; decide) (by rw [t_33_24]; decide) (by rw [t_33_24]; rfl) 1219 (by decide) ?_
      exact lw_case_entry X hn hj L (fun S' I' c' s' L' => law_next X (law_loop hn X m (j + 1) S' I' c' s' (by omega) (by omega) L'))
    by_cases t_33_25 : f (nI (10 * j)).toNatClampNeg &&& 31 = 25
    · refine V_tableIn (off := 1230) X dL_law_33 (by rw [t_33_25]; decide) (by rw [t_33_25]; decide) (by rw [t_33_25]; rfl) 1263 (by decide) ?_
      exact lw_case_ses X hn hj L (fun S' I' c' s' L' => law_next X (law_loop hn X m (j + 1) S' I' c' s' (by omega) (by omega) L'))
    by_cases t_33_26 : f (nI (10 * j)).toNatClampNeg &&& 31 = 26
    · refine V_tableIn (off := 1263) X dL_law_33 (by rw [t_33_26]; decide) (by rw [t_33_26]; decide) (by rw [t_33_26]; rfl) 1296 (by decide) ?_
      exact lw_case_sub X hn hj L (fun S' I' c' s' L' => law_next X (law_loop hn X m (j + 1) S' I' c' s' (by omega) (by omega) L'))
    by_cases t_33_27 : f (nI (10 * j)).toNatClampNeg &&& 31 = 27
    · refine V_tableIn (off := 1296) X dL_law_33 (by rw [t_33_27]; decide) (by rw [t_33_27]; decide) (by rw [t_33_27]; rfl) 1329 (by decide) ?_
      exact lw_case_itemOf X hn hj L (fun S' I' c' s' L' => law_next X (law_loop hn X m (j + 1) S' I' c' s' (by omega) (by omega) L'))
    by_cases t_33_28 : f (nI (10 * j)).toNatClampNeg &&& 31 = 28
    · refine V_tableIn (off := 1329) X dL_law_33 (by rw [t_33_28]; decide) (by rw [t_33_28]; decide) (by rw [t_33_28]; rfl) 1362 (by decide) ?_
      exact lw_case_stat X hn hj L (fun S' I' c' s' L' => law_next X (law_loop hn X m (j + 1) S' I' c' s' (by omega) (by omega) L'))
    have n_33_0 : (f (nI (10 * j)).toNatClampNeg &&& 31).toInt ≠ 0 := fun q => t_33_0 ((fa_eq _ _).mpr (q.trans rfl))
    have n_33_1 : (f (nI (10 * j)).toNatClampNeg &&& 31).toInt ≠ 1 := fun q => t_33_1 ((fa_eq _ _).mpr (q.trans rfl))
    have n_33_2 : (f (nI (10 * j)).toNatClampNeg &&& 31).toInt ≠ 2 := fun q => t_33_2 ((fa_eq _ _).mpr (q.trans rfl))
    have n_33_3 : (f (nI (10 * j)).toNatClampNeg &&& 31).toInt ≠ 3 := fun q => t_33_3 ((fa_eq _ _).mpr (q.trans rfl))
    have n_33_4 : (f (nI (10 * j)).toNatClampNeg &&& 31).toInt ≠ 4 := fun q => t_33_4 ((fa_eq _ _).mpr (q.trans rfl))
    have n_33_5 : (f (nI (10 * j)).toNatClampNeg &&& 31).toInt ≠ 5 := fun q => t_33_5 ((fa_eq _ _).mpr (q.trans rfl))
    have n_33_6 : (f (nI (10 * j)).toNatClampNeg &&& 31).toInt ≠ 6 := fun q => t_33_6 ((fa_eq _ _).mpr (q.trans rfl))
    have n_33_7 : (f (nI (10 * j)).toNatClampNeg &&& 31).toInt ≠ 7 := fun q => t_33_7 ((fa_eq _ _).mpr (q.trans rfl))
    have n_33_8 : (f (nI (10 * j)).toNatClampNeg &&& 31).toInt ≠ 8 := fun q => t_33_8 ((fa_eq _ _).mpr (q.trans rfl))
    have n_33_9 : (f (nI (10 * j)).toNatClampNeg &&& 31).toInt ≠ 9 := fun q => t_33_9 ((fa_eq _ _).mpr (q.trans rfl))
    have n_33_10 : (f (nI (10 * j)).toNatClampNeg &&& 31).toInt ≠ 10 := fun q => t_33_10 ((fa_eq _ _).mpr (q.trans rfl))
    have n_33_11 : (f (nI (10 * j)).toNatClampNeg &&& 31).toInt ≠ 11 := fun q => t_33_11 ((fa_eq _ _).mpr (q.trans rfl))
    have n_33_12 : (f (nI (10 * j)).toNatClampNeg &&& 31).toInt ≠ 12 := fun q => t_33_12 ((fa_eq _ _).mpr (q.trans rfl))
    have n_33_13 : (f (nI (10 * j)).toNatClampNeg &&& 31).toInt ≠ 13 := fun q => t_33_13 ((fa_eq _ _).mpr (q.trans rfl))
    have n_33_14 : (f (nI (10 * j)).toNatClampNeg &&& 31).toInt ≠ 14 := fun q => t_33_14 ((fa_eq _ _).mpr (q.trans rfl))
    have n_33_15 : (f (nI (10 * j)).toNatClampNeg &&& 31).toInt ≠ 15 := fun q => t_33_15 ((fa_eq _ _).mpr (q.trans rfl))
    have n_33_16 : (f (nI (10 * j)).toNatClampNeg &&& 31).toInt ≠ 16 := fun q => t_33_16 ((fa_eq _ _).mpr (q.trans rfl))
    have n_33_17 : (f (nI (10 * j)).toNatClampNeg &&& 31).toInt ≠ 17 := fun q => t_33_17 ((fa_eq _ _).mpr (q.trans rfl))
    have n_33_18 : (f (nI (10 * j)).toNatClampNeg &&& 31).toInt ≠ 18 := fun q => t_33_18 ((fa_eq _ _).mpr (q.trans rfl))
    have n_33_19 : (f (nI (10 * j)).toNatClampNeg &&& 31).toInt ≠ 19 := fun q => t_33_19 ((fa_eq _ _).mpr (q.trans rfl))
    have n_33_20 : (f (nI (10 * j)).toNatClampNeg &&& 31).toInt ≠ 20 := fun q => t_33_20 ((fa_eq _ _).mpr (q.trans rfl))
    have n_33_21 : (f (nI (10 * j)).toNatClampNeg &&& 31).toInt ≠ 21 := fun q => t_33_21 ((fa_eq _ _).mpr (q.trans rfl))
    have n_33_22 : (f (nI (10 * j)).toNatClampNeg &&& 31).toInt ≠ 22 := fun q => t_33_22 ((fa_eq _ _).mpr (q.trans rfl))
    have n_33_23 : (f (nI (10 * j)).toNatClampNeg &&& 31).toInt ≠ 23 := fun q => t_33_23 ((fa_eq _ _).mpr (q.trans rfl))
    have n_33_24 : (f (nI (10 * j)).toNatClampNeg &&& 31).toInt ≠ 24 := fun q => t_33_24 ((fa_eq _ _).mpr (q.trans rfl))
    have n_33_25 : (f (nI (10 * j)).toNatClampNeg &&& 31).toInt ≠ 25 := fun q => t_33_25 ((fa_eq _ _).mpr (q.trans rfl))
    have n_33_26 : (f (nI (10 * j)).toNatClampNeg &&& 31).toInt ≠ 26 := fun q => t_33_26 ((fa_eq _ _).mpr (q.trans rfl))
    have n_33_27 : (f (nI (10 * j)).toNatClampNeg &&& 31).toInt ≠ 27 := fun q => t_33_27 ((fa_eq _ _).mpr (q.trans rfl))
    have n_33_28 : (f (nI (10 * j)).toNatClampNeg &&& 31).toInt ≠ 28 := fun q => t_33_28 ((fa_eq _ _).mpr (q.trans rfl))
    refine V_tableOut X dL_law_33 (by omega) 1385 (by decide) ?_
    exact law_next X (law_loop hn X m (j + 1) S _ _ _ (by omega) (by omega) (LI.same L (by omega)))
theorem sm0 (b : Nat) : sm (0 : Int32) b := ⟨rfl, Nat.zero_le _⟩
theorem IN.start : IN 0 0 S0 := by
  have z : ∀ k i, S0.1 k i = 0 := fun _ _ => rfl
  refine ⟨⟨⟨⟨0, by decide, rfl⟩, ⟨0, by decide, rfl⟩, ⟨0, by decide, rfl⟩, ⟨0, by decide, rfl⟩⟩, fun i _ => ⟨sm0 8, sm0 8, Nat.le_refl _, sm0 39, sm0 19⟩, fun b _ => ⟨sm0 11, sm0 10⟩, fun s _ => ⟨sm0 4, sm0 512⟩, ⟨Nat.le_refl 0, by decide, Nat.le_refl 0⟩, fun b hb => absurd hb (Nat.not_lt_zero b), fun i hi => absurd hi (Nat.not_lt_zero i)⟩, ⟨⟨0, by decide, rfl⟩, ⟨0, by decide, rfl⟩, ⟨0, by decide, rfl⟩, ⟨0, by decide, rfl⟩, ⟨0, by decide, rfl⟩, ⟨0, by decide, rfl⟩⟩, fun i hi => absurd hi (Nat.not_lt_zero i), ⟨fun i hi => absurd hi (Nat.not_lt_zero i), fun i hi => absurd hi (Nat.not_lt_zero i)⟩, ⟨fun _ _ => rfl, fun _ _ => ⟨rfl, rfl⟩, fun _ _ => ⟨rfl, rfl, rfl, rfl⟩, fun _ _ => ⟨rfl, rfl, rfl, rfl⟩, fun _ _ => rfl⟩, fun i hi => absurd hi (Nat.not_lt_zero i), fun i hi => absurd hi (Nat.not_lt_zero i), ⟨fun _ => Or.inl rfl, fun _ => Or.inl rfl⟩, fun i hi => absurd hi (Nat.not_lt_zero i), fun i hi => absurd hi (Nat.not_lt_zero i), fun b _ => ?_, ⟨sm0 0, fun b _ => ⟨fun h => absurd rfl h, sm0 0⟩⟩, rfl⟩
  rw [kpA_len]
  exact Nat.zero_le 5
/-- the heap at the law's entry -/
def aI0 (n : Nat) (f : Nat → Int32) : aH := hu (hu (fun _ => none) scr (.inl (0, aI n f))) zed (.inl (3, aR 0 (fun _ => none)))
theorem aI0_z {n : Nat} {f : Nat → Int32} : aI0 n f zed = some (.inl (3, aR 0 (fun _ => none))) := hu_s
theorem aI0_s {n : Nat} {f : Nat → Int32} : aI0 n f scr = some (.inl (0, aI n f)) := (hu_n (kd_ni (by decide))).trans hu_s
theorem aI0_k {n : Nat} {f : Nat → Int32} {k i g : Nat} (h : k ≠ 0) : aI0 n f (kd k i g) = none := (hu_n (kd_nk h)).trans (hu_n (kd_nk h))
theorem LI.start {n : Nat} {f : Nat → Int32} {I1 I2 : aH} {o : aO} {cells slots : Nat} (hB : BH S0 I1) (hs : I1 scr = some (.inl (0, aI n f))) (hN : MN 62 (hu I1 mO o) I2) (hc : cells ≤ 700) (hl : slots ≤ 170000) : LI n f 0 S0 I2 cells slots := by
  obtain ⟨Q, J, rfl, R⟩ := hB
  have e : ∀ k i g, k ≠ 40 → k ≠ 41 → I2 (kd k i g) = ovc S0 J (kd k i g) := fun k i g q1 q2 => (hN.2.2.2 k i g q1 q2).trans (hu_n (ne_mO q1))
  have hu0 : uc S0 = uc S0 := rfl
  refine ⟨Q, I2, ovc_self (fun k i hk => ?_), ⟨R.1.J (fun k i g hk => ?_), R.2.J (fun k i g hk => ?_)⟩, hN.mh, (e 0 2 0 (by decide) (by decide)).trans hs, IN.start, by omega, by omega⟩
  · have := kO_c hk
    rw [e k i 0 (by omega) (by omega), ovc_at hk]
  · rw [e k i g (by omega) (by omega)]
    refine ovc_k ?_
    rcases hk with rfl | hk
    · rfl
    · have : k = 20 ∨ k = 21 ∨ k = 22 ∨ k = 23 ∨ k = 24 ∨ k = 25 ∨ k = 26 ∨ k = 27 ∨ k = 28 ∨ k = 29 := by omega
      rcases this with rfl | rfl | rfl | rfl | rfl | rfl | rfl | rfl | rfl | rfl <;> rfl
  · rw [e k i g (by omega) (by omega)]
    refine ovc_k ?_
    rcases hk with rfl | rfl | rfl <;> rfl

set_option maxRecDepth 100000 in
set_option maxHeartbeats 4000000 in
theorem law_entry {l : Launch} {Z : Zt} {n : Nat} {f : Nat → Int32} (hn : n ≤ 5120) (X : Fx Z l room_1 cL_law 4 RL (some .boolean) LQ) : V Z 4 (aI0 n f) [some (.ref scr), none, none, none] [] 0 0 0 := by
  refine V_new X dL_law_0 nk_L_7 rO (aI0_k (by decide)) (kd_nk (by decide)) (ro_k (by decide)) ?_ ?_ ?_
  · dsimp only [rmm, room_1]; omega
  · dsimp only [rmm, room_1]; omega
  refine V_dup X dL_law_3 rfl ?_
  have hIS : IS (hu (aI0 n f) rO (.inr (9, [.null, .null, .null, .null, .null, .null, .null, .int 0, .long 0, .int 0, .int 0]))) (hu (aI0 n f) rO (.inr (9, [.null, .null, .null, .null, .null, .null, .null, .int 0, .long 0, .int 0, .int 0]))) 0 := by
    refine ⟨hu_s, fun k hk => absurd hk (Nat.not_lt_zero k), fun k g _ => ⟨(hu_n (ne_rO (by decide))).trans (aI0_k (by decide)), (hu_n (ne_rO (by decide))).trans (aI0_k (by decide))⟩, fun k i g _ _ _ => rfl, fun i g q => (hu_n (kd_ne fun w => q w.2)).trans (aI0_k (by decide)), (hu_n (ne_rO (k := 0) (by decide))).trans aI0_z⟩
  refine V_callI0 X dL_law_4 mk_L_9 ii_X8_init (c_X8_init l hIS (fun k i g h1 h2 h3 => (hu_n (fun e => h3 (kd_eq.mp e))).trans (aI0_k (by omega)))) (Nat.le_of_ble_eq_true rfl) ⟨Nat.le_of_ble_eq_true rfl, Nat.le_of_ble_eq_true rfl⟩ ?_ ?_
  · exact ⟨by dsimp only [rmm, room_1]; omega, by dsimp only [rmm, room_1]; omega⟩
  rintro r I1 ⟨rfl, hB, hK⟩
  have hk : ∀ k i g, 30 ≤ k → I1 (kd k i g) = none := fun k i g h => (hK k i g (Or.inr h)).trans ((hu_n (ne_rO (by omega))).trans (aI0_k (by omega)))
  have hs : I1 scr = some (.inl (0, aI n f)) := (hK 0 2 0 (Or.inl rfl)).trans ((hu_n (ne_rO (k := 0) (by decide))).trans aI0_s)
  refine V_astore_n X dL_law_7 (by decide) rfl rfl ?_
  refine V_new X dL_law_8 nk_L_10 mO (hk 40 0 0 (by decide)) (kd_nk (by decide)) (ro_k (by decide)) ?_ ?_ ?_
  · dsimp only [rmm, room_1]; omega
  · dsimp only [rmm, room_1]; omega
  refine V_dup X dL_law_11 rfl ?_
  refine V_callI0 X dL_law_12 mk_L_12 ii_X9_init (c_X9_init l ⟨hu_s, fun k hk => absurd hk (Nat.not_lt_zero k), fun k _ => (hu_n (ne_mO (by decide))).trans (hk 41 k 0 (by decide)), fun k i g _ _ => rfl⟩) (Nat.le_of_ble_eq_true rfl) ⟨Nat.le_of_ble_eq_true rfl, Nat.le_of_ble_eq_true rfl⟩ ?_ ?_
  · exact ⟨by dsimp only [rmm, room_1]; omega, by dsimp only [rmm, room_1]; omega⟩
  rintro r I2 ⟨rfl, hN⟩
  refine V_astore_n X dL_law_15 (by decide) rfl rfl ?_
  refine V_iconst (v := 0) X dL_law_16 (by decide) ?_
  refine V_istore_n X dL_law_17 (by decide) rfl ?_
  exact law_loop hn X 514 0 S0 I2 _ _ (by omega) (by omega) (LI.start hB hs hN (by dsimp only [rmm]; omega) (by dsimp only [rmm]; omega))
