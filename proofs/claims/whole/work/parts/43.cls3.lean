theorem CT.cg {S S' : St} (c : CT S) (a1 : S'.1 1 0 = S.1 1 0 := by rfl) (a2 : S'.1 4 0 = S.1 4 0 := by rfl) (a3 : S'.1 8 0 = S.1 8 0 := by rfl) (a4 : S'.1 15 0 = S.1 15 0 := by rfl) (a5 : S'.1 32 0 = S.1 32 0 := by rfl) (a6 : S'.1 48 0 = S.1 48 0 := by rfl) : CT S' := by
  unfold CT ct at *
  rw [a1, a2, a3, a4, a5, a6]
  exact c
theorem ML.cg {S S' : St} {J : aH} (c : ML S J) (a1 : S'.1 1 0 = S.1 1 0 := by rfl) (a2 : S'.1 4 0 = S.1 4 0 := by rfl) (a3 : S'.1 8 0 = S.1 8 0 := by rfl) (a4 : S'.1 15 0 = S.1 15 0 := by rfl) (a5 : S'.1 32 0 = S.1 32 0 := by rfl) (a6 : S'.1 48 0 = S.1 48 0 := by rfl) : ML S' J := by
  unfold ML at *
  rw [a1, a2, a3, a4, a5, a6]
  exact c
theorem KD.cg {S S' : St} (c : KD S) (a1 : S'.1 1 0 = S.1 1 0 := by rfl) (a2 : S'.1 2 = S.1 2 := by rfl) : KD S' := by
  unfold KD at *
  rw [a1, a2]
  exact c
theorem OW.cg {S S' : St} (c : OW S) (a1 : S'.1 1 0 = S.1 1 0 := by rfl) (a3 : S'.1 8 0 = S.1 8 0 := by rfl) (a4 : S'.1 15 0 = S.1 15 0 := by rfl) (a5 : S'.1 32 0 = S.1 32 0 := by rfl) (b1 : S'.1 17 = S.1 17 := by rfl) (b2 : S'.1 34 = S.1 34 := by rfl) (b3 : S'.1 35 = S.1 35 := by rfl) : OW S' := by
  unfold OW at *
  rw [a1, a3, a4, a5, b1, b2, b3]
  exact c
theorem lack_no {S : St} {s : Int32} (h : ¬ lackS S s = 0) : ¬ S.1 11 (nn s) = 1 ∨ ¬ isSes S s := by
  by_cases q : isSes S s
  · exact Or.inl fun z => h (lack_0 q z)
  · exact Or.inr q
theorem ct_inc {S : St} {k b : Nat} (h : ct S k b) (hb : b < 2 ^ 30) : nn (S.1 k 0 + 1) = nn (S.1 k 0) + 1 ∧ S.1 k 0 + 1 = nI (nn (S.1 k 0) + 1) := by
  obtain ⟨h1, h2⟩ := ct_nn h (by omega)
  generalize nn (S.1 k 0) = N at *
  rw [h2, nI_1]
  exact ⟨nnI (by omega), rfl⟩
theorem lsT {S S1 : St} {Q Q1 : Nat → List Nat} {k0 i0 : Nat} {L : List Nat} (h0 : lsL S1 Q1 k0 i0 = some L) (h : ∀ k i, lk k = true → ¬ (k = k0 ∧ i = i0) → lsL S1 Q1 k i = lsL S Q k i) : ∀ k i, lk k = true → lsL S1 Q1 k i = upT (lsL S Q) k0 i0 L k i := fun k i hk => by
  unfold upT
  by_cases e : k = k0 ∧ i = i0
  · rw [if_pos e, e.1, e.2]
    exact h0
  · rw [if_neg e]
    exact h k i hk e
theorem ls22 {S S' : St} {Q Q' : Nat → List Nat} {i : Nat} (a : S'.1 8 0 = S.1 8 0 := by rfl) (b : S'.1 13 = S.1 13 := by rfl) (c : S'.1 14 = S.1 14 := by rfl) : lsL S' Q' 22 i = lsL S Q 22 i := by
  show (if i < nn (S'.1 8 0) then some (mlL S' i) else none) = (if i < nn (S.1 8 0) then some (mlL S i) else none)
  unfold mlL
  rw [a, b, c]
theorem ls24 {S S' : St} {Q Q' : Nat → List Nat} {i : Nat} (a : S'.1 15 0 = S.1 15 0 := by rfl) (a5 : S'.1 32 0 = S.1 32 0 := by rfl) (b : S'.1 33 = S.1 33 := by rfl) (c : S'.1 34 = S.1 34 := by rfl) : lsL S' Q' 24 i = lsL S Q 24 i := by
  show (if i < nn (S'.1 15 0) then some (itL S' i) else none) = (if i < nn (S.1 15 0) then some (itL S i) else none)
  unfold itL itI siB siP
  rw [a, a5, b, c]
theorem ls26 {S S' : St} {Q Q' : Nat → List Nat} {i : Nat} (a : S'.1 15 0 = S.1 15 0 := by rfl) (a5 : S'.1 48 0 = S.1 48 0 := by rfl) (b : S'.1 54 = S.1 54 := by rfl) (c : S'.1 49 = S.1 49 := by rfl) : lsL S' Q' 26 i = lsL S Q 26 i := by
  show (if i < nn (S'.1 15 0) then some (kpL S' i) else none) = (if i < nn (S.1 15 0) then some (kpL S i) else none)
  unfold kpL kpI kpB kpP
  rw [a, a5, b, c]
theorem ls28 {S S' : St} {Q : Nat → List Nat} {i : Nat} (a : S'.1 32 0 = S.1 32 0 := by rfl) : lsL S' Q 28 i = lsL S Q 28 i := by
  show (if i < nn (S'.1 32 0) then some (quL Q i) else none) = (if i < nn (S.1 32 0) then some (quL Q i) else none)
  rw [a]
theorem ls20 {S S' : St} {Q Q' : Nat → List Nat} {i j : Nat} (hne : ¬ i = j) (a1 : S'.1 1 0 = S.1 1 0 ∨ j = 0) (a2 : S'.1 4 0 = S.1 4 0 ∨ j = 1) (a3 : S'.1 8 0 = S.1 8 0 ∨ j = 2) (a4 : S'.1 15 0 = S.1 15 0 ∨ j = 3) (a5 : S'.1 32 0 = S.1 32 0 ∨ j = 4) (a6 : S'.1 48 0 = S.1 48 0 ∨ j = 5) : lsL S' Q' 20 i = lsL S Q 20 i := by
  show mainL S' i = mainL S i
  unfold mainL
  split
  · rw [a1.resolve_right (fun q => hne q.symm)]
  · rw [a2.resolve_right (fun q => hne q.symm)]
  · rw [a3.resolve_right (fun q => hne q.symm)]
  · rw [a4.resolve_right (fun q => hne q.symm)]
  · rw [a5.resolve_right (fun q => hne q.symm)]
  · rw [a6.resolve_right (fun q => hne q.symm)]
  · rfl
set_option maxRecDepth 100000 in
set_option maxHeartbeats 4000000 in
theorem n_node (l : Launch) {I : aH} {i : Nat} {a b : Int32} (h : I (kd 2 i 0) = some (.inr (4, [.int 0, .int 0, .long 0]))) : AM l yX3_init cX3_init 3 none (rmm 1 0 0 30) [.ref (kd 2 i 0), .int a, .int b] I (fun r I' => r = none ∧ I' = hu I (kd 2 i 0) (.inr (4, [.int a, .int b, .long 0]))) := by
  refine AM_of RX3 (by decide) rfl [some (.ref (kd 2 i 0)), some (.int a), some (.int b)] rfl (Nat.le_of_ble_eq_true rfl) (fun Z X hNm => ?_)
  refine V_aload_n X dX3_init_0 rfl rfl ?_
  refine V_objInit X dX3_init_1 ol_X3_1 ob_i ob_c (Nat.le_of_ble_eq_true rfl) (Nat.le_of_ble_eq_true rfl) ?_
  refine V_aload_n X dX3_init_4 rfl rfl ?_
  refine V_lconst (v := 0) X dX3_init_5 (by decide) ?_
  apply V_put X dX3_init_6 fk_X3_7
  · first | assumption | exact hu_s | exact (hu_n (by first | exact kd_nk (by decide) | exact kd_ni (by omega) | exact kd_ng (by omega) | assumption | exact Ne.symm (by assumption))).trans (by first | assumption | exact hu_s | exact (hu_n (by first | exact kd_nk (by decide) | exact kd_ni (by omega) | exact kd_ng (by omega) | assumption | exact Ne.symm (by assumption))).trans (by first | assumption | exact hu_s | exact (hu_n (by first | exact kd_nk (by decide) | exact kd_ni (by omega) | exact kd_ng (by omega) | assumption | exact Ne.symm (by assumption))).trans (by first | assumption | exact hu_s)))
  · exact ro_k (by decide)
  · exact Nat.le_of_ble_eq_true rfl
  · exact rfl
  · exact rfl
  refine V_aload_n X dX3_init_9 rfl rfl ?_
  refine V_iload_n X dX3_init_10 rfl ?_
  apply V_putF X hNm dX3_init_11 fp_X3_13
  · first | assumption | exact hu_s | exact (hu_n (by first | exact kd_nk (by decide) | exact kd_ni (by omega) | exact kd_ng (by omega) | assumption | exact Ne.symm (by assumption))).trans (by first | assumption | exact hu_s | exact (hu_n (by first | exact kd_nk (by decide) | exact kd_ni (by omega) | exact kd_ng (by omega) | assumption | exact Ne.symm (by assumption))).trans (by first | assumption | exact hu_s | exact (hu_n (by first | exact kd_nk (by decide) | exact kd_ni (by omega) | exact kd_ng (by omega) | assumption | exact Ne.symm (by assumption))).trans (by first | assumption | exact hu_s)))
  · exact ro_k (by decide)
  · exact Nat.le_of_ble_eq_true rfl
  · exact rfl
  · exact rfl
  refine V_aload_n X dX3_init_14 rfl rfl ?_
  refine V_iload_n X dX3_init_15 rfl ?_
  apply V_putF X hNm dX3_init_16 fp_X3_17
  · first | assumption | exact hu_s | exact (hu_n (by first | exact kd_nk (by decide) | exact kd_ni (by omega) | exact kd_ng (by omega) | assumption | exact Ne.symm (by assumption))).trans (by first | assumption | exact hu_s | exact (hu_n (by first | exact kd_nk (by decide) | exact kd_ni (by omega) | exact kd_ng (by omega) | assumption | exact Ne.symm (by assumption))).trans (by first | assumption | exact hu_s | exact (hu_n (by first | exact kd_nk (by decide) | exact kd_ni (by omega) | exact kd_ng (by omega) | assumption | exact Ne.symm (by assumption))).trans (by first | assumption | exact hu_s)))
  · exact ro_k (by decide)
  · exact Nat.le_of_ble_eq_true rfl
  · exact rfl
  · exact rfl
  refine V_vret X dX3_init_19 ?_ ?_ ?_
  · dsimp only [rmm]; omega
  · dsimp only [rmm]; omega
  exact ⟨rfl, by rw [hu_hu, hu_hu]; rfl⟩
set_option maxRecDepth 100000 in
set_option maxHeartbeats 4000000 in
theorem n_ref (l : Launch) {I : aH} {i : Nat} {a b c : Int32} (h : I (kd 3 i 0) = some (.inr (6, [.int 0, .int 0, .int 0]))) : AM l yX5_init cX5_init 4 none (rmm 1 0 0 30) [.ref (kd 3 i 0), .int a, .int b, .int c] I (fun r I' => r = none ∧ I' = hu I (kd 3 i 0) (.inr (6, [.int a, .int b, .int c]))) := by
  refine AM_of RX5 (by decide) rfl [some (.ref (kd 3 i 0)), some (.int a), some (.int b), some (.int c)] rfl (Nat.le_of_ble_eq_true rfl) (fun Z X hNm => ?_)
  refine V_aload_n X dX5_init_0 rfl rfl ?_
  refine V_objInit X dX5_init_1 ol_X5_1 ob_i ob_c (Nat.le_of_ble_eq_true rfl) (Nat.le_of_ble_eq_true rfl) ?_
  refine V_aload_n X dX5_init_4 rfl rfl ?_
  refine V_iload_n X dX5_init_5 rfl ?_
  apply V_putF X hNm dX5_init_6 fp_X5_7
  · first | assumption | exact hu_s | exact (hu_n (by first | exact kd_nk (by decide) | exact kd_ni (by omega) | exact kd_ng (by omega) | assumption | exact Ne.symm (by assumption))).trans (by first | assumption | exact hu_s | exact (hu_n (by first | exact kd_nk (by decide) | exact kd_ni (by omega) | exact kd_ng (by omega) | assumption | exact Ne.symm (by assumption))).trans (by first | assumption | exact hu_s | exact (hu_n (by first | exact kd_nk (by decide) | exact kd_ni (by omega) | exact kd_ng (by omega) | assumption | exact Ne.symm (by assumption))).trans (by first | assumption | exact hu_s)))
  · exact ro_k (by decide)
  · exact Nat.le_of_ble_eq_true rfl
  · exact rfl
  · exact rfl
  refine V_aload_n X dX5_init_9 rfl rfl ?_
  refine V_iload_n X dX5_init_10 rfl ?_
  apply V_putF X hNm dX5_init_11 fp_X5_13
  · first | assumption | exact hu_s | exact (hu_n (by first | exact kd_nk (by decide) | exact kd_ni (by omega) | exact kd_ng (by omega) | assumption | exact Ne.symm (by assumption))).trans (by first | assumption | exact hu_s | exact (hu_n (by first | exact kd_nk (by decide) | exact kd_ni (by omega) | exact kd_ng (by omega) | assumption | exact Ne.symm (by assumption))).trans (by first | assumption | exact hu_s | exact (hu_n (by first | exact kd_nk (by decide) | exact kd_ni (by omega) | exact kd_ng (by omega) | assumption | exact Ne.symm (by assumption))).trans (by first | assumption | exact hu_s)))
  · exact ro_k (by decide)
  · exact Nat.le_of_ble_eq_true rfl
  · exact rfl
  · exact rfl
  refine V_aload_n X dX5_init_14 rfl rfl ?_
  refine V_iload_n X dX5_init_15 rfl ?_
  apply V_putF X hNm dX5_init_16 fp_X5_16
  · first | assumption | exact hu_s | exact (hu_n (by first | exact kd_nk (by decide) | exact kd_ni (by omega) | exact kd_ng (by omega) | assumption | exact Ne.symm (by assumption))).trans (by first | assumption | exact hu_s | exact (hu_n (by first | exact kd_nk (by decide) | exact kd_ni (by omega) | exact kd_ng (by omega) | assumption | exact Ne.symm (by assumption))).trans (by first | assumption | exact hu_s | exact (hu_n (by first | exact kd_nk (by decide) | exact kd_ni (by omega) | exact kd_ng (by omega) | assumption | exact Ne.symm (by assumption))).trans (by first | assumption | exact hu_s)))
  · exact ro_k (by decide)
  · exact Nat.le_of_ble_eq_true rfl
  · exact rfl
  · exact rfl
  refine V_vret X dX5_init_19 ?_ ?_ ?_
  · dsimp only [rmm]; omega
  · dsimp only [rmm]; omega
  exact ⟨rfl, by rw [hu_hu, hu_hu]; rfl⟩
theorem new_node {S : St} {J : aH} {x : Int32} (c : ct S 1 40) (hz : S.2 3 (nn (S.1 1 0)) = 0) : hu (ovc S J) (kd 2 (nn (S.1 1 0)) 0) (.inr (4, [.int (S.1 1 0), .int x, .long 0])) = ovc (pa (pa S 2 (nn (S.1 1 0)) x) 1 0 (S.1 1 0 + 1)) J := by
  have e1 : nn ((pa (pa S 2 (nn (S.1 1 0)) x) 1 0 (S.1 1 0 + 1)).1 1 0) = nn (S.1 1 0) + 1 := (ct_inc c (by decide)).1
  have e0 : S.1 1 0 = nI (nn (S.1 1 0)) := (ct_nn c (by decide)).2
  refine hu_ovc rfl ?_ ?_
  · have : ob (pa (pa S 2 (nn (S.1 1 0)) x) 1 0 (S.1 1 0 + 1)) 2 (nn (S.1 1 0)) = some (.inr (4, nodeO (pa (pa S 2 (nn (S.1 1 0)) x) 1 0 (S.1 1 0 + 1)) (nn (S.1 1 0)))) := if_pos (by omega)
    rw [this]
    simp [nodeO, pa_1, pa_2, pb_1, pb_2, hz, ← e0]
  · intro k' i' hk hne
    rcases kO_c hk with rfl | rfl | rfl | rfl | rfl | rfl | rfl | rfl | rfl
    · exact oc1 rfl rfl rfl rfl
    · have hi : i' ≠ nn (S.1 1 0) := fun z => hne ⟨rfl, z⟩
      have e : nodeO (pa (pa S 2 (nn (S.1 1 0)) x) 1 0 (S.1 1 0 + 1)) i' = nodeO S i' := by simp [nodeO, pa_1, pa_2, pb_1, pb_2, hi]
      show (if i' < nn ((pa (pa S 2 (nn (S.1 1 0)) x) 1 0 (S.1 1 0 + 1)).1 1 0) then (some (.inr (4, nodeO (pa (pa S 2 (nn (S.1 1 0)) x) 1 0 (S.1 1 0 + 1)) i')) : Option aO) else none) = (if i' < nn (S.1 1 0) then (some (.inr (4, nodeO S i')) : Option aO) else none)
      rw [e, e1]
      by_cases q : i' < nn (S.1 1 0)
      · rw [if_pos q, if_pos (by omega)]
      · rw [if_neg q, if_neg (by omega)]
    · exact oc3 rfl rfl rfl rfl
    · exact oc4 rfl rfl rfl rfl rfl
    · exact oc5 rfl rfl rfl rfl rfl rfl rfl rfl rfl rfl rfl rfl rfl rfl rfl rfl
    · exact oc6 rfl rfl rfl rfl rfl rfl rfl rfl rfl rfl
    · exact oc7 rfl rfl rfl
    · exact oc8 rfl rfl rfl rfl rfl rfl rfl
    · exact oc11 rfl
theorem new_ref {S : St} {J : aH} {a b t : Int32} (c : ct S 4 100)  : hu (ovc S J) (kd 3 (nn (S.1 4 0)) 0) (.inr (6, [.int a, .int b, .int t])) = ovc (pa (pa (pa (pa S 5 (nn (S.1 4 0)) a) 6 (nn (S.1 4 0)) b) 7 (nn (S.1 4 0)) t) 4 0 (S.1 4 0 + 1)) J := by
  have e1 : nn ((pa (pa (pa (pa S 5 (nn (S.1 4 0)) a) 6 (nn (S.1 4 0)) b) 7 (nn (S.1 4 0)) t) 4 0 (S.1 4 0 + 1)).1 4 0) = nn (S.1 4 0) + 1 := (ct_inc c (by decide)).1
  have e0 : S.1 4 0 = nI (nn (S.1 4 0)) := (ct_nn c (by decide)).2
  refine hu_ovc rfl ?_ ?_
  · have : ob (pa (pa (pa (pa S 5 (nn (S.1 4 0)) a) 6 (nn (S.1 4 0)) b) 7 (nn (S.1 4 0)) t) 4 0 (S.1 4 0 + 1)) 3 (nn (S.1 4 0)) = some (.inr (6, refO (pa (pa (pa (pa S 5 (nn (S.1 4 0)) a) 6 (nn (S.1 4 0)) b) 7 (nn (S.1 4 0)) t) 4 0 (S.1 4 0 + 1)) (nn (S.1 4 0)))) := if_pos (by omega)
    rw [this]
    simp [refO, pa_1, pa_2, pb_1, pb_2, ← e0]
  · intro k' i' hk hne
    rcases kO_c hk with rfl | rfl | rfl | rfl | rfl | rfl | rfl | rfl | rfl
    · exact oc1 rfl rfl rfl rfl
    · exact oc2 rfl rfl rfl
    · have hi : i' ≠ nn (S.1 4 0) := fun z => hne ⟨rfl, z⟩
      have e : refO (pa (pa (pa (pa S 5 (nn (S.1 4 0)) a) 6 (nn (S.1 4 0)) b) 7 (nn (S.1 4 0)) t) 4 0 (S.1 4 0 + 1)) i' = refO S i' := by simp [refO, pa_1, pa_2, pb_1, pb_2, hi]
      show (if i' < nn ((pa (pa (pa (pa S 5 (nn (S.1 4 0)) a) 6 (nn (S.1 4 0)) b) 7 (nn (S.1 4 0)) t) 4 0 (S.1 4 0 + 1)).1 4 0) then (some (.inr (6, refO (pa (pa (pa (pa S 5 (nn (S.1 4 0)) a) 6 (nn (S.1 4 0)) b) 7 (nn (S.1 4 0)) t) 4 0 (S.1 4 0 + 1)) i')) : Option aO) else none) = (if i' < nn (S.1 4 0) then (some (.inr (6, refO S i')) : Option aO) else none)
      rw [e, e1]
      by_cases q : i' < nn (S.1 4 0)
      · rw [if_pos q, if_pos (by omega)]
      · rw [if_neg q, if_neg (by omega)]
    · exact oc4 rfl rfl rfl rfl rfl
    · exact oc5 rfl rfl rfl rfl rfl rfl rfl rfl rfl rfl rfl rfl rfl rfl rfl rfl
    · exact oc6 rfl rfl rfl rfl rfl rfl rfl rfl rfl rfl
    · exact oc7 rfl rfl rfl
    · exact oc8 rfl rfl rfl rfl rfl rfl rfl
    · exact oc11 rfl
set_option maxRecDepth 100000 in
set_option maxHeartbeats 4000000 in
theorem k_node (l : Launch) {S : St} {Q : Nat → List Nat} {J : aH} {x : Int32} (c : CT S) (R : RJ S Q J) (z : FZ S) : AM l yX8_node cX8_node 2 (some .int) (rmm 7 2 80 191) [.ref rO, .int x] (ovc S J) (RES (op_node S x) J) := by
  have m := R.ml
  have hl := (ct_nn c.1 (by decide)).1
  have hlen : (rg 2 (nn (S.1 1 0))).length ≤ 40 := by rw [rg_len]; exact hl
  have ei := ct_inc c.1 (by decide)
  refine AM_of RX8 (by decide) rfl [some (.ref rO), some (.int x)] rfl (Nat.le_of_ble_eq_true rfl) (fun Z X hNm => ?_)
  refine V_iload_n X dX8_node_0 rfl ?_
  refine V_iconst (v := 0) X dX8_node_1 (by decide) ?_
  refine V_iconst (v := 2) X dX8_node_2 (by decide) ?_
  refine V_callS3 X dX8_node_3 mk_X8_51 st_X8_isWithin (k_within l x 0 2) (Nat.le_of_ble_eq_true rfl) ⟨Nat.le_of_ble_eq_true rfl, Nat.le_of_ble_eq_true rfl⟩ ?_ ?_
  · exact ⟨by dsimp only [rmm]; omega, by dsimp only [rmm]; omega⟩
  rintro r I1 ⟨rfl, rfl⟩
  refine V_if_ne X dX8_node_6 16 (by decide) (fun c_6 => ?_) (fun c_6 => ?_)
  · have h_6 := bz_t c_6
    refine V_aload_n X dX8_node_16 rfl rfl ?_
    apply V_get X dX8_node_17 fk_X8_10
    · exact at_root
    · exact rfl
    apply V_callV0 X dX8_node_20 mk_X8_59 iv_Jx4a65c_size_8abf5 (k_szr l m.1 c.1 (by decide) rfl rfl)
    · exact ll_o (m.1.ov rfl rfl)
    · exact rfl
    · exact Nat.le_of_ble_eq_true rfl
    · exact ⟨Nat.le_of_ble_eq_true rfl, Nat.le_of_ble_eq_true rfl⟩
    · exact ⟨by dsimp only [rmm]; omega, by dsimp only [rmm]; omega⟩
    rintro r I1 ⟨rfl, rfl⟩
    refine V_bipush (v := 40) X dX8_node_23 (by decide) ?_
    refine V_icmp_lt X dX8_node_25 35 (by decide) (fun c_25 => ?_) (fun c_25 => ?_)
    · have hq := ct_lt c.1 (by decide) 40 rfl c_25
      refine V_aload_n X dX8_node_35 rfl rfl ?_
      apply V_get X dX8_node_36 fk_X8_10
      · exact at_root
      · exact rfl
      refine V_new X dX8_node_39 nk_X8_49 (kd 2 (nn (S.1 1 0)) 0) ?_ ?_ ?_ ?_ ?_ ?_
      · exact no_at rfl (if_neg (Nat.lt_irrefl _))
      · exact kd_nk (by decide)
      · exact ro_k (by decide)
      · dsimp only [rmm]; omega
      · dsimp only [rmm]; omega
      refine V_dup X dX8_node_42 rfl ?_
      refine V_aload_n X dX8_node_43 rfl rfl ?_
      apply V_get X dX8_node_44 fk_X8_10
      · exact (hu_n (kd_nk (by decide))).trans at_root
      · exact rfl
      apply V_callV0 X dX8_node_47 mk_X8_59 iv_Jx4a65c_size_8abf5 (k_size l (x := S.1 1 0) (((m.1.ov (S := S) rfl rfl).hu (by decide) (by decide) (by decide))) (by rw [rg_len]; exact hq.2.1.symm))
      · exact ll_o ((m.1.ov (S := S) rfl rfl).hu (by decide) (by decide) (by decide))
      · exact rfl
      · exact Nat.le_of_ble_eq_true rfl
      · exact ⟨Nat.le_of_ble_eq_true rfl, Nat.le_of_ble_eq_true rfl⟩
      · exact ⟨by dsimp only [rmm]; omega, by dsimp only [rmm]; omega⟩
      rintro r I1 ⟨rfl, rfl⟩
      refine V_iload_n X dX8_node_50 rfl ?_
      refine V_callI2 X dX8_node_51 mk_X8_63 ii_X3_init (n_node l hu_s) (Nat.le_of_ble_eq_true rfl) ⟨Nat.le_of_ble_eq_true rfl, Nat.le_of_ble_eq_true rfl⟩ ?_ ?_
      · exact ⟨by dsimp only [rmm]; omega, by dsimp only [rmm]; omega⟩
      rintro r I1 ⟨rfl, rfl⟩
      rw [hu_hu, new_node c.1 (z.1 _ (Nat.le_refl _))]
      apply V_callV1 X dX8_node_54 mk_X8_66 iv_Jx4a65c_add_9ea2d (c_add l (by decide) (m.1.ov (S := pa (pa S 2 (nn (S.1 1 0)) x) 1 0 (S.1 1 0 + 1)) rfl rfl) (by omega) (fun a ha => by obtain ⟨i, hi, rfl⟩ := rg_mem ha; exact eo_node (S := pa (pa S 2 (nn (S.1 1 0)) x) 1 0 (S.1 1 0 + 1)) (Nat.lt_of_lt_of_eq (Nat.lt_succ_of_lt hi) ei.1.symm)) (eo_node (S := pa (pa S 2 (nn (S.1 1 0)) x) 1 0 (S.1 1 0 + 1)) (Nat.lt_of_lt_of_eq (Nat.lt_succ_self _) ei.1.symm)))
      · exact ll_o (m.1.ov (S := pa (pa S 2 (nn (S.1 1 0)) x) 1 0 (S.1 1 0 + 1)) rfl rfl)
      · exact rfl
      · exact Nat.le_of_ble_eq_true rfl
      · exact ⟨Nat.le_of_ble_eq_true rfl, Nat.le_of_ble_eq_true rfl⟩
      · exact ⟨by dsimp only [rmm]; omega, by dsimp only [rmm]; omega⟩
      rintro r I1 ⟨rfl, hL, hF⟩
      obtain ⟨J1, rfl, hL1, hF1⟩ := LL_ov hF hL rfl rfl
      refine V_pop X dX8_node_57 rfl ?_
      refine V_aload_n X dX8_node_58 rfl rfl ?_
      apply V_get X dX8_node_59 fk_X8_10
      · exact at_root
      · exact rfl
      apply V_callV0 X dX8_node_62 mk_X8_59 iv_Jx4a65c_size_8abf5 (k_size l (x := S.1 1 0 + 1) (hL1.ov (S := pa (pa S 2 (nn (S.1 1 0)) x) 1 0 (S.1 1 0 + 1)) rfl rfl) (by rw [List.length_append, rg_len]; exact ei.2.symm))
      · exact ll_o (hL1.ov (S := pa (pa S 2 (nn (S.1 1 0)) x) 1 0 (S.1 1 0 + 1)) rfl rfl)
      · exact rfl
      · exact Nat.le_of_ble_eq_true rfl
      · exact ⟨Nat.le_of_ble_eq_true rfl, Nat.le_of_ble_eq_true rfl⟩
      · exact ⟨by dsimp only [rmm]; omega, by dsimp only [rmm]; omega⟩
      rintro r I1 ⟨rfl, rfl⟩
      refine V_iconst (v := 1) X dX8_node_65 (by decide) ?_
      refine V_isub X dX8_node_66 ?_
      refine V_iret X dX8_node_67 ?_ ?_ ?_ ?_
      · exact rfl
      · dsimp only [rmm]; omega
      · dsimp only [rmm]; omega
      have R1 : RJ (pa (pa S 2 (nn (S.1 1 0)) x) 1 0 (S.1 1 0 + 1)) Q J1 := by
        refine ⟨(R.1.upd (k := 20) (i := 0) rfl hF1 hL1).to (lsT ?_ ?_), (R.2.fr (k := 20) rfl hF1).cg⟩
        · show some (rg 2 (nn ((pa (pa S 2 (nn (S.1 1 0)) x) 1 0 (S.1 1 0 + 1)).1 1 0))) = _
          rw [show nn ((pa (pa S 2 (nn (S.1 1 0)) x) 1 0 (S.1 1 0 + 1)).1 1 0) = nn (S.1 1 0) + 1 from ei.1, rg_s]
        · intro k i hk hne
          rcases lk_c hk with rfl | rfl | rfl | rfl | rfl
          · exact ls20 (j := 0) (fun q => hne ⟨rfl, q⟩) (Or.inr rfl) (Or.inl rfl) (Or.inl rfl) (Or.inl rfl) (Or.inl rfl) (Or.inl rfl)
          · exact ls22
          · exact ls24
          · exact ls26
          · exact ls28
      exact RES.of (q := op_node S x) (by rw [op_node, if_pos h_6, if_neg hq.2.2] <;> rfl) R1 (hF1.fj (k := 20) rfl)
    have hq := ct_ge c.1 (by decide) 40 rfl c_25
    refine V_aload_n X dX8_node_28 rfl rfl ?_
    refine V_bipush (v := (-8)) X dX8_node_29 (by decide) ?_
    apply V_callV1 X dX8_node_31 mk_X8_55 iv_X8_refuse (k_refuse l (S := S) (by unfold vp_in; decide) (by decide))
    · exact at_root
    · exact rfl
    · exact Nat.le_of_ble_eq_true rfl
    · exact ⟨Nat.le_of_ble_eq_true rfl, Nat.le_of_ble_eq_true rfl⟩
    · exact ⟨by dsimp only [rmm]; omega, by dsimp only [rmm]; omega⟩
    rintro r I1 ⟨rfl, rfl⟩
    refine V_iret X dX8_node_34 ?_ ?_ ?_ ?_
    · exact rfl
    · dsimp only [rmm]; omega
    · dsimp only [rmm]; omega
    exact RES.of (q := op_node S x) (by rw [op_node, if_pos h_6, if_pos hq] <;> rfl) R.cg FJ.rf
  have h_6 := bz_f c_6
  refine V_aload_n X dX8_node_9 rfl rfl ?_
  refine V_bipush (v := (-7)) X dX8_node_10 (by decide) ?_
  apply V_callV1 X dX8_node_12 mk_X8_55 iv_X8_refuse (k_refuse l (S := S) (by unfold vp_in; decide) (by decide))
  · exact at_root
  · exact rfl
  · exact Nat.le_of_ble_eq_true rfl
  · exact ⟨Nat.le_of_ble_eq_true rfl, Nat.le_of_ble_eq_true rfl⟩
  · exact ⟨by dsimp only [rmm]; omega, by dsimp only [rmm]; omega⟩
  rintro r I1 ⟨rfl, rfl⟩
  refine V_iret X dX8_node_15 ?_ ?_ ?_ ?_
  · exact rfl
  · dsimp only [rmm]; omega
  · dsimp only [rmm]; omega
  exact RES.of (q := op_node S x) (by rw [op_node, if_neg h_6] <;> rfl) R.cg FJ.rf
set_option maxRecDepth 100000 in
set_option maxHeartbeats 4000000 in
theorem k_refer (l : Launch) {S : St} {Q : Nat → List Nat} {J : aH} {a b t : Int32} (c : CT S) (R : RJ S Q J) : AM l yX8_refer cX8_refer 4 (some .int) (rmm 7 2 170 191) [.ref rO, .int a, .int b, .int t] (ovc S J) (RES (op_refer S a b t) J) := by
  have m := R.ml
  have hl := (ct_nn c.2.1 (by decide)).1
  have hlen : (rg 3 (nn (S.1 4 0))).length ≤ 100 := by rw [rg_len]; exact hl
  have ei := ct_inc c.2.1 (by decide)
  refine AM_of RX8 (by decide) rfl [some (.ref rO), some (.int a), some (.int b), some (.int t)] rfl (Nat.le_of_ble_eq_true rfl) (fun Z X hNm => ?_)
  refine V_aload_n X dX8_refer_0 rfl rfl ?_
  refine V_iload_n X dX8_refer_1 rfl ?_
  apply V_callV1 X dX8_refer_2 mk_X8_70 iv_X8_nodeAt (k_nodeAt l c m)
  · exact at_root
  · exact rfl
  · exact Nat.le_of_ble_eq_true rfl
  · exact ⟨Nat.le_of_ble_eq_true rfl, Nat.le_of_ble_eq_true rfl⟩
  · exact ⟨by dsimp only [rmm]; omega, by dsimp only [rmm]; omega⟩
  rintro r I1 ⟨rfl, ⟨hna, rfl⟩ | ⟨hna, rfl⟩⟩
  · refine V_ifnull X dX8_refer_5 ?_
    refine V_aload_n X dX8_refer_8 rfl rfl ?_
    refine V_iload_n X dX8_refer_9 rfl ?_
    apply V_callV1 X dX8_refer_10 mk_X8_70 iv_X8_nodeAt (k_nodeAt l c m)
    · exact at_root
    · exact rfl
    · exact Nat.le_of_ble_eq_true rfl
    · exact ⟨Nat.le_of_ble_eq_true rfl, Nat.le_of_ble_eq_true rfl⟩
    · exact ⟨by dsimp only [rmm]; omega, by dsimp only [rmm]; omega⟩
    rintro r I1 ⟨rfl, ⟨hnb, rfl⟩ | ⟨hnb, rfl⟩⟩
    · refine V_ifnonnull X dX8_refer_13 23 (by decide) ?_
      refine V_iload_n X dX8_refer_23 rfl ?_
      refine V_iconst (v := 0) X dX8_refer_24 (by decide) ?_
      refine V_bipush (v := 7) X dX8_refer_25 (by decide) ?_
      refine V_callS3 X dX8_refer_27 mk_X8_51 st_X8_isWithin (k_within l t 0 7) (Nat.le_of_ble_eq_true rfl) ⟨Nat.le_of_ble_eq_true rfl, Nat.le_of_ble_eq_true rfl⟩ ?_ ?_
      · exact ⟨by dsimp only [rmm]; omega, by dsimp only [rmm]; omega⟩
      rintro r I1 ⟨rfl, rfl⟩
      refine V_if_ne X dX8_refer_30 40 (by decide) (fun c_30 => ?_) (fun c_30 => ?_)
      · have h_30 := bz_t c_30
        refine V_aload_n X dX8_refer_40 rfl rfl ?_
        apply V_get X dX8_refer_41 fk_X8_16
        · exact at_root
        · exact rfl
        apply V_callV0 X dX8_refer_44 mk_X8_59 iv_Jx4a65c_size_8abf5 (k_szr l m.2.1 c.2.1 (by decide) rfl rfl)
        · exact ll_o (m.2.1.ov rfl rfl)
        · exact rfl
        · exact Nat.le_of_ble_eq_true rfl
        · exact ⟨Nat.le_of_ble_eq_true rfl, Nat.le_of_ble_eq_true rfl⟩
        · exact ⟨by dsimp only [rmm]; omega, by dsimp only [rmm]; omega⟩
        rintro r I1 ⟨rfl, rfl⟩
        refine V_bipush (v := 100) X dX8_refer_47 (by decide) ?_
        refine V_icmp_lt X dX8_refer_49 59 (by decide) (fun c_49 => ?_) (fun c_49 => ?_)
        · have hq := ct_lt c.2.1 (by decide) 100 rfl c_49
          refine V_aload_n X dX8_refer_59 rfl rfl ?_
          apply V_get X dX8_refer_60 fk_X8_16
          · exact at_root
          · exact rfl
          refine V_new X dX8_refer_63 nk_X8_74 (kd 3 (nn (S.1 4 0)) 0) ?_ ?_ ?_ ?_ ?_ ?_
          · exact no_at rfl (if_neg (Nat.lt_irrefl _))
          · exact kd_nk (by decide)
          · exact ro_k (by decide)
          · dsimp only [rmm]; omega
          · dsimp only [rmm]; omega
          refine V_dup X dX8_refer_66 rfl ?_
          refine V_iload_n X dX8_refer_67 rfl ?_
          refine V_iload_n X dX8_refer_68 rfl ?_
          refine V_iload_n X dX8_refer_69 rfl ?_
          refine V_callI3 X dX8_refer_70 mk_X8_76 ii_X5_init (n_ref l hu_s) (Nat.le_of_ble_eq_true rfl) ⟨Nat.le_of_ble_eq_true rfl, Nat.le_of_ble_eq_true rfl⟩ ?_ ?_
          · exact ⟨by dsimp only [rmm]; omega, by dsimp only [rmm]; omega⟩
          rintro r I1 ⟨rfl, rfl⟩
          rw [hu_hu, new_ref c.2.1]
          apply V_callV1 X dX8_refer_73 mk_X8_66 iv_Jx4a65c_add_9ea2d (c_add l (by decide) (m.2.1.ov (S := pa (pa (pa (pa S 5 (nn (S.1 4 0)) a) 6 (nn (S.1 4 0)) b) 7 (nn (S.1 4 0)) t) 4 0 (S.1 4 0 + 1)) rfl rfl) (by omega) (fun a ha => by obtain ⟨i, hi, rfl⟩ := rg_mem ha; exact eo_ref (S := pa (pa (pa (pa S 5 (nn (S.1 4 0)) a) 6 (nn (S.1 4 0)) b) 7 (nn (S.1 4 0)) t) 4 0 (S.1 4 0 + 1)) (Nat.lt_of_lt_of_eq (Nat.lt_succ_of_lt hi) ei.1.symm)) (eo_ref (S := pa (pa (pa (pa S 5 (nn (S.1 4 0)) a) 6 (nn (S.1 4 0)) b) 7 (nn (S.1 4 0)) t) 4 0 (S.1 4 0 + 1)) (Nat.lt_of_lt_of_eq (Nat.lt_succ_self _) ei.1.symm)))
          · exact ll_o (m.2.1.ov (S := pa (pa (pa (pa S 5 (nn (S.1 4 0)) a) 6 (nn (S.1 4 0)) b) 7 (nn (S.1 4 0)) t) 4 0 (S.1 4 0 + 1)) rfl rfl)
          · exact rfl
          · exact Nat.le_of_ble_eq_true rfl
          · exact ⟨Nat.le_of_ble_eq_true rfl, Nat.le_of_ble_eq_true rfl⟩
          · exact ⟨by dsimp only [rmm]; omega, by dsimp only [rmm]; omega⟩
          rintro r I1 ⟨rfl, hL, hF⟩
          obtain ⟨J1, rfl, hL1, hF1⟩ := LL_ov hF hL rfl rfl
          refine V_pop X dX8_refer_76 rfl ?_
          refine V_aload_n X dX8_refer_77 rfl rfl ?_
          apply V_get X dX8_refer_78 fk_X8_16
          · exact at_root
          · exact rfl
          apply V_callV0 X dX8_refer_81 mk_X8_59 iv_Jx4a65c_size_8abf5 (k_size l (x := S.1 4 0 + 1) (hL1.ov (S := pa (pa (pa (pa S 5 (nn (S.1 4 0)) a) 6 (nn (S.1 4 0)) b) 7 (nn (S.1 4 0)) t) 4 0 (S.1 4 0 + 1)) rfl rfl) (by rw [List.length_append, rg_len]; exact ei.2.symm))
          · exact ll_o (hL1.ov (S := pa (pa (pa (pa S 5 (nn (S.1 4 0)) a) 6 (nn (S.1 4 0)) b) 7 (nn (S.1 4 0)) t) 4 0 (S.1 4 0 + 1)) rfl rfl)
          · exact rfl
          · exact Nat.le_of_ble_eq_true rfl
          · exact ⟨Nat.le_of_ble_eq_true rfl, Nat.le_of_ble_eq_true rfl⟩
          · exact ⟨by dsimp only [rmm]; omega, by dsimp only [rmm]; omega⟩
          rintro r I1 ⟨rfl, rfl⟩
          refine V_iconst (v := 1) X dX8_refer_84 (by decide) ?_
          refine V_isub X dX8_refer_85 ?_
          refine V_iret X dX8_refer_86 ?_ ?_ ?_ ?_
          · exact rfl
          · dsimp only [rmm]; omega
          · dsimp only [rmm]; omega
          have R1 : RJ (pa (pa (pa (pa S 5 (nn (S.1 4 0)) a) 6 (nn (S.1 4 0)) b) 7 (nn (S.1 4 0)) t) 4 0 (S.1 4 0 + 1)) Q J1 := by
            refine ⟨(R.1.upd (k := 20) (i := 1) rfl hF1 hL1).to (lsT ?_ ?_), (R.2.fr (k := 20) rfl hF1).cg⟩
            · show some (rg 3 (nn ((pa (pa (pa (pa S 5 (nn (S.1 4 0)) a) 6 (nn (S.1 4 0)) b) 7 (nn (S.1 4 0)) t) 4 0 (S.1 4 0 + 1)).1 4 0))) = _
              rw [show nn ((pa (pa (pa (pa S 5 (nn (S.1 4 0)) a) 6 (nn (S.1 4 0)) b) 7 (nn (S.1 4 0)) t) 4 0 (S.1 4 0 + 1)).1 4 0) = nn (S.1 4 0) + 1 from ei.1, rg_s]
            · intro k i hk hne
              rcases lk_c hk with rfl | rfl | rfl | rfl | rfl
              · exact ls20 (j := 1) (fun q => hne ⟨rfl, q⟩) (Or.inl rfl) (Or.inr rfl) (Or.inl rfl) (Or.inl rfl) (Or.inl rfl) (Or.inl rfl)
              · exact ls22
              · exact ls24
              · exact ls26
              · exact ls28
          exact RES.of (q := op_refer S a b t) (by rw [op_refer, if_pos hna, if_pos hnb, if_pos h_30, if_neg hq.2.2] <;> rfl) R1 (hF1.fj (k := 20) rfl)
        have hq := ct_ge c.2.1 (by decide) 100 rfl c_49
        refine V_aload_n X dX8_refer_52 rfl rfl ?_
        refine V_bipush (v := (-8)) X dX8_refer_53 (by decide) ?_
        apply V_callV1 X dX8_refer_55 mk_X8_55 iv_X8_refuse (k_refuse l (S := S) (by unfold vp_in; decide) (by decide))
        · exact at_root
        · exact rfl
        · exact Nat.le_of_ble_eq_true rfl
        · exact ⟨Nat.le_of_ble_eq_true rfl, Nat.le_of_ble_eq_true rfl⟩
        · exact ⟨by dsimp only [rmm]; omega, by dsimp only [rmm]; omega⟩
        rintro r I1 ⟨rfl, rfl⟩
        refine V_iret X dX8_refer_58 ?_ ?_ ?_ ?_
        · exact rfl
        · dsimp only [rmm]; omega
        · dsimp only [rmm]; omega
        exact RES.of (q := op_refer S a b t) (by rw [op_refer, if_pos hna, if_pos hnb, if_pos h_30, if_pos hq] <;> rfl) R.cg FJ.rf
      have h_30 := bz_f c_30
      refine V_aload_n X dX8_refer_33 rfl rfl ?_
      refine V_bipush (v := (-7)) X dX8_refer_34 (by decide) ?_
      apply V_callV1 X dX8_refer_36 mk_X8_55 iv_X8_refuse (k_refuse l (S := S) (by unfold vp_in; decide) (by decide))
      · exact at_root
      · exact rfl
      · exact Nat.le_of_ble_eq_true rfl
      · exact ⟨Nat.le_of_ble_eq_true rfl, Nat.le_of_ble_eq_true rfl⟩
      · exact ⟨by dsimp only [rmm]; omega, by dsimp only [rmm]; omega⟩
      rintro r I1 ⟨rfl, rfl⟩
      refine V_iret X dX8_refer_39 ?_ ?_ ?_ ?_
      · exact rfl
      · dsimp only [rmm]; omega
      · dsimp only [rmm]; omega
      exact RES.of (q := op_refer S a b t) (by rw [op_refer, if_pos hna, if_pos hnb, if_neg h_30] <;> rfl) R.cg FJ.rf
    refine V_ifnonnullN X dX8_refer_13 ?_
    refine V_aload_n X dX8_refer_16 rfl rfl ?_
    refine V_bipush (v := (-4)) X dX8_refer_17 (by decide) ?_
    apply V_callV1 X dX8_refer_19 mk_X8_55 iv_X8_refuse (k_refuse l (S := S) (by unfold vp_in; decide) (by decide))
    · exact at_root
    · exact rfl
    · exact Nat.le_of_ble_eq_true rfl
    · exact ⟨Nat.le_of_ble_eq_true rfl, Nat.le_of_ble_eq_true rfl⟩
    · exact ⟨by dsimp only [rmm]; omega, by dsimp only [rmm]; omega⟩
    rintro r I1 ⟨rfl, rfl⟩
    refine V_iret X dX8_refer_22 ?_ ?_ ?_ ?_
    · exact rfl
    · dsimp only [rmm]; omega
    · dsimp only [rmm]; omega
    exact RES.of (q := op_refer S a b t) (by rw [op_refer, if_pos hna, if_neg hnb] <;> rfl) R.cg FJ.rf
  refine V_ifnullN X dX8_refer_5 16 (by decide) ?_
  refine V_aload_n X dX8_refer_16 rfl rfl ?_
  refine V_bipush (v := (-4)) X dX8_refer_17 (by decide) ?_
  apply V_callV1 X dX8_refer_19 mk_X8_55 iv_X8_refuse (k_refuse l (S := S) (by unfold vp_in; decide) (by decide))
  · exact at_root
  · exact rfl
  · exact Nat.le_of_ble_eq_true rfl
  · exact ⟨Nat.le_of_ble_eq_true rfl, Nat.le_of_ble_eq_true rfl⟩
  · exact ⟨by dsimp only [rmm]; omega, by dsimp only [rmm]; omega⟩
  rintro r I1 ⟨rfl, rfl⟩
  refine V_iret X dX8_refer_22 ?_ ?_ ?_ ?_
  · exact rfl
  · dsimp only [rmm]; omega
  · dsimp only [rmm]; omega
  exact RES.of (q := op_refer S a b t) (by rw [op_refer, if_neg hna] <;> rfl) R.cg FJ.rf
set_option maxRecDepth 100000 in
set_option maxHeartbeats 4000000 in
theorem k_change (l : Launch) {S : St} {Q : Nat → List Nat} {J : aH} {n : Int32} {v : Int64} (c : CT S) (R : RJ S Q J) (K : KD S) : AM l yX8_change cX8_change 5 (some .int) (rmm 5 0 0 107) [.ref rO, .int n, .long v] (ovc S J) (RES (op_change S n v) J) := by
  refine AM_of RX8 (by decide) rfl [some (.ref rO), some (.int n), some (.long v), none, none] rfl (Nat.le_of_ble_eq_true rfl) (fun Z X hNm => ?_)
  refine V_aload_n X dX8_change_0 rfl rfl ?_
  refine V_iload_n X dX8_change_1 rfl ?_
  apply V_callV1 X dX8_change_2 mk_X8_79 iv_X8_variableAt (k_varAt l c R.ml K)
  · exact at_root
  · exact rfl
  · exact Nat.le_of_ble_eq_true rfl
  · exact ⟨Nat.le_of_ble_eq_true rfl, Nat.le_of_ble_eq_true rfl⟩
  · exact ⟨by dsimp only [rmm]; omega, by dsimp only [rmm]; omega⟩
  rintro r I1 ⟨rfl, ⟨hn, rfl⟩ | ⟨hn, rfl⟩⟩
  · have hi := (n_ix hn.1).2
    refine V_astore X dX8_change_5 (by decide) rfl rfl ?_
    refine V_aload X dX8_change_7 rfl rfl ?_
    refine V_ifnonnull X dX8_change_9 19 (by decide) ?_
    refine V_aload X dX8_change_19 rfl rfl ?_
    refine V_lload_n X dX8_change_21 rfl ?_
    refine P2_2 X dX8_change_22 fk_X8_82 (by assumption) ?_
    refine V_iconst (v := 1) X dX8_change_25 (by decide) ?_
    refine V_iret X dX8_change_26 ?_ ?_ ?_ ?_
    · exact rfl
    · dsimp only [rmm]; omega
    · dsimp only [rmm]; omega
    exact RES.of (q := op_change S n v) (by rw [op_change, if_pos hn] <;> rfl) R.cg FJ.rf
  refine V_astore X dX8_change_5 (by decide) rfl rfl ?_
  refine V_aload X dX8_change_7 rfl rfl ?_
  refine V_ifnonnullN X dX8_change_9 ?_
  refine V_aload_n X dX8_change_12 rfl rfl ?_
  refine V_bipush (v := (-4)) X dX8_change_13 (by decide) ?_
  apply V_callV1 X dX8_change_15 mk_X8_55 iv_X8_refuse (k_refuse l (S := S) (by unfold vp_in; decide) (by decide))
  · exact at_root
  · exact rfl
  · exact Nat.le_of_ble_eq_true rfl
  · exact ⟨Nat.le_of_ble_eq_true rfl, Nat.le_of_ble_eq_true rfl⟩
  · exact ⟨by dsimp only [rmm]; omega, by dsimp only [rmm]; omega⟩
  rintro r I1 ⟨rfl, rfl⟩
  refine V_iret X dX8_change_18 ?_ ?_ ?_ ?_
  · exact rfl
  · dsimp only [rmm]; omega
  · dsimp only [rmm]; omega
  exact RES.of (q := op_change S n v) (by rw [op_change, if_neg hn] <;> rfl) R.cg FJ.rf
theorem act_l {S : St} {s : Int32} (h : isSes S s) (h2 : S.1 11 (nn s) = 2) : op_activate S s = rr S (lackS S s) := by
  rw [op_activate, if_pos h, if_pos h2, lackS, if_pos h, if_neg (by rw [h2]; decide), if_pos h2]
theorem act_n {S : St} {s : Int32} (h : ¬ isSes S s) : op_activate S s = rr S (lackS S s) := by
  rw [op_activate, if_neg h, lackS, if_neg h]
set_option maxRecDepth 100000 in
set_option maxHeartbeats 4000000 in
theorem k_activate (l : Launch) {S : St} {Q : Nat → List Nat} {J : aH} {s : Int32} (c : CT S) (R : RJ S Q J) : AM l yX8_activate cX8_activate 3 (some .int) (rmm 5 0 0 107) [.ref rO, .int s] (ovc S J) (RES (op_activate S s) J) := by
  refine AM_of RX8 (by decide) rfl [some (.ref rO), some (.int s), none] rfl (Nat.le_of_ble_eq_true rfl) (fun Z X hNm => ?_)
  refine V_aload_n X dX8_activate_0 rfl rfl ?_
  refine V_iload_n X dX8_activate_1 rfl ?_
  apply V_callV1 X dX8_activate_2 mk_X8_98 iv_X8_sessionAt (k_sesAt l c R.ml)
  · exact at_root
  · exact rfl
  · exact Nat.le_of_ble_eq_true rfl
  · exact ⟨Nat.le_of_ble_eq_true rfl, Nat.le_of_ble_eq_true rfl⟩
  · exact ⟨by dsimp only [rmm]; omega, by dsimp only [rmm]; omega⟩
  rintro r I1 ⟨rfl, ⟨hs, rfl⟩ | ⟨hs, rfl⟩⟩
  · have hi := (ses_ix hs).2
    refine V_astore_n X dX8_activate_5 (by decide) rfl rfl ?_
    refine V_aload_n X dX8_activate_6 rfl rfl ?_
    refine V_ifnull X dX8_activate_7 ?_
    refine V_aload_n X dX8_activate_10 rfl rfl ?_
    apply V_get X dX8_activate_11 fk_X8_102
    · exact at_ses (by assumption)
    · exact rfl
    refine V_iconst (v := 2) X dX8_activate_14 (by decide) ?_
    refine V_icmp_ne X dX8_activate_15 24 (by decide) (fun c_15 => ?_) (fun c_15 => ?_)
    · refine V_aload_n X dX8_activate_24 rfl rfl ?_
      refine V_iconst (v := 1) X dX8_activate_25 (by decide) ?_
      refine P4_3 X dX8_activate_26 fk_X8_102 (by assumption) ?_
      refine V_aload_n X dX8_activate_29 rfl rfl ?_
      refine V_aload_n X dX8_activate_30 rfl rfl ?_
      apply V_get X dX8_activate_31 fk_X8_35
      · exact at_root
      · exact rfl
      apply V_callV1 X dX8_activate_34 mk_X8_108 iv_X6_renew (k_renew l (S := pa S 11 (nn s) 1) hi)
      · exact at_ses (by assumption)
      · exact rfl
      · exact Nat.le_of_ble_eq_true rfl
      · exact ⟨Nat.le_of_ble_eq_true rfl, Nat.le_of_ble_eq_true rfl⟩
      · exact ⟨by dsimp only [rmm]; omega, by dsimp only [rmm]; omega⟩
      rintro r I1 ⟨rfl, rfl⟩
      refine V_iconst (v := 1) X dX8_activate_37 (by decide) ?_
      refine V_iret X dX8_activate_38 ?_ ?_ ?_ ?_
      · exact rfl
      · dsimp only [rmm]; omega
      · dsimp only [rmm]; omega
      exact RES.of (q := op_activate S s) (by rw [op_activate, if_pos hs, if_neg c_15] <;> rfl) R.cg FJ.rf
    refine V_aload_n X dX8_activate_18 rfl rfl ?_
    refine V_iload_n X dX8_activate_19 rfl ?_
    apply V_callV1 X dX8_activate_20 mk_X8_105 iv_X8_refuseSession (k_refS l c R.ml (Or.inl (by rw [c_15]; decide)))
    · exact at_root
    · exact rfl
    · exact Nat.le_of_ble_eq_true rfl
    · exact ⟨Nat.le_of_ble_eq_true rfl, Nat.le_of_ble_eq_true rfl⟩
    · exact ⟨by dsimp only [rmm]; omega, by dsimp only [rmm]; omega⟩
    rintro r I1 ⟨rfl, rfl⟩
    refine V_iret X dX8_activate_23 ?_ ?_ ?_ ?_
    · exact rfl
    · dsimp only [rmm]; omega
    · dsimp only [rmm]; omega
    exact RES.of (act_l hs c_15) R.cg FJ.rf
  refine V_astore_n X dX8_activate_5 (by decide) rfl rfl ?_
  refine V_aload_n X dX8_activate_6 rfl rfl ?_
  refine V_ifnullN X dX8_activate_7 18 (by decide) ?_
  refine V_aload_n X dX8_activate_18 rfl rfl ?_
  refine V_iload_n X dX8_activate_19 rfl ?_
  apply V_callV1 X dX8_activate_20 mk_X8_105 iv_X8_refuseSession (k_refS l c R.ml (Or.inr hs))
  · exact at_root
  · exact rfl
  · exact Nat.le_of_ble_eq_true rfl
  · exact ⟨Nat.le_of_ble_eq_true rfl, Nat.le_of_ble_eq_true rfl⟩
  · exact ⟨by dsimp only [rmm]; omega, by dsimp only [rmm]; omega⟩
  rintro r I1 ⟨rfl, rfl⟩
  refine V_iret X dX8_activate_23 ?_ ?_ ?_ ?_
  · exact rfl
  · dsimp only [rmm]; omega
  · dsimp only [rmm]; omega
  exact RES.of (act_n hs) R.cg FJ.rf
set_option maxRecDepth 100000 in
set_option maxHeartbeats 4000000 in
theorem k_read (l : Launch) {S : St} {Q : Nat → List Nat} {J : aH} {s n : Int32} (c : CT S) (R : RJ S Q J) (K : KD S) : AM l yX8_read cX8_read 4 (some .int) (rmm 5 0 0 107) [.ref rO, .int s, .int n] (ovc S J) (RES (op_read S s n) J) := by
  refine AM_of RX8 (by decide) rfl [some (.ref rO), some (.int s), some (.int n), none] rfl (Nat.le_of_ble_eq_true rfl) (fun Z X hNm => ?_)
  refine V_aload_n X dX8_read_0 rfl rfl ?_
  refine V_iload_n X dX8_read_1 rfl ?_
  apply V_callV1 X dX8_read_2 mk_X8_112 iv_X8_enter (k_enter l c R.ml)
  · exact at_root
  · exact rfl
  · exact Nat.le_of_ble_eq_true rfl
  · exact ⟨Nat.le_of_ble_eq_true rfl, Nat.le_of_ble_eq_true rfl⟩
  · exact ⟨by dsimp only [rmm]; omega, by dsimp only [rmm]; omega⟩
  rintro r I1 (⟨hl, rfl, rfl⟩ | ⟨hl, rfl, rfl⟩)
  · have hs := lack_s hl
    have hi := (ses_ix hs).2
    have R1 : RJ (entP S s) Q J := R.cg
    refine V_ifnonnull X dX8_read_5 14 (by decide) ?_
    refine V_aload_n X dX8_read_14 rfl rfl ?_
    refine V_iload_n X dX8_read_15 rfl ?_
    apply V_callV1 X dX8_read_16 mk_X8_79 iv_X8_variableAt (k_varAt l (S := entP S s) c.cg R1.ml K.cg)
    · exact at_root
    · exact rfl
    · exact Nat.le_of_ble_eq_true rfl
    · exact ⟨Nat.le_of_ble_eq_true rfl, Nat.le_of_ble_eq_true rfl⟩
    · exact ⟨by dsimp only [rmm]; omega, by dsimp only [rmm]; omega⟩
    rintro r I1 ⟨rfl, ⟨hn, rfl⟩ | ⟨hn, rfl⟩⟩
    · have hj := (n_ix (S := entP S s) hn.1).2
      refine V_astore_n X dX8_read_19 (by decide) rfl rfl ?_
      refine V_aload_n X dX8_read_20 rfl rfl ?_
      refine V_ifnonnull X dX8_read_21 31 (by decide) ?_
      refine V_aload_n X dX8_read_31 rfl rfl ?_
      refine V_aload_n X dX8_read_32 rfl rfl ?_
      apply V_get X dX8_read_33 fk_X8_82
      · exact at_node (by assumption)
      · exact rfl
      refine P1_8 X dX8_read_36 fk_X8_39 ?_
      refine V_iconst (v := 0) X dX8_read_39 (by decide) ?_
      refine V_iret X dX8_read_40 ?_ ?_ ?_ ?_
      · exact rfl
      · dsimp only [rmm]; omega
      · dsimp only [rmm]; omega
      exact RES.of (q := op_read S s n) (by rw [op_read, if_pos (lack_ge.mpr hl), ent_0 hl, if_pos hn] <;> rfl) R.cg FJ.rf
    refine V_astore_n X dX8_read_19 (by decide) rfl rfl ?_
    refine V_aload_n X dX8_read_20 rfl rfl ?_
    refine V_ifnonnullN X dX8_read_21 ?_
    refine V_aload_n X dX8_read_24 rfl rfl ?_
    refine V_bipush (v := (-4)) X dX8_read_25 (by decide) ?_
    apply V_callV1 X dX8_read_27 mk_X8_55 iv_X8_refuse (k_refuse l (S := entP S s) (by unfold vp_in; decide) (by decide))
    · exact at_root
    · exact rfl
    · exact Nat.le_of_ble_eq_true rfl
    · exact ⟨Nat.le_of_ble_eq_true rfl, Nat.le_of_ble_eq_true rfl⟩
    · exact ⟨by dsimp only [rmm]; omega, by dsimp only [rmm]; omega⟩
    rintro r I1 ⟨rfl, rfl⟩
    refine V_iret X dX8_read_30 ?_ ?_ ?_ ?_
    · exact rfl
    · dsimp only [rmm]; omega
    · dsimp only [rmm]; omega
    exact RES.of (q := op_read S s n) (by rw [op_read, if_pos (lack_ge.mpr hl), ent_0 hl, if_neg hn] <;> rfl) R.cg FJ.rf
  refine V_ifnonnullN X dX8_read_5 ?_
  refine V_aload_n X dX8_read_8 rfl rfl ?_
  refine V_iload_n X dX8_read_9 rfl ?_
  apply V_callV1 X dX8_read_10 mk_X8_105 iv_X8_refuseSession (k_refS l c R.ml (lack_no hl))
  · exact at_root
  · exact rfl
  · exact Nat.le_of_ble_eq_true rfl
  · exact ⟨Nat.le_of_ble_eq_true rfl, Nat.le_of_ble_eq_true rfl⟩
  · exact ⟨by dsimp only [rmm]; omega, by dsimp only [rmm]; omega⟩
  rintro r I1 ⟨rfl, rfl⟩
  refine V_iret X dX8_read_13 ?_ ?_ ?_ ?_
  · exact rfl
  · dsimp only [rmm]; omega
  · dsimp only [rmm]; omega
  exact RES.of (q := op_read S s n) (by rw [op_read, if_neg (fun q => hl (lack_ge.mp q)), ent_1 hl] <;> rfl) R.cg FJ.rf
theorem wr_n {S : St} {n : Int32} (h : ¬ isVr S n) (hn : isN S n) (K : KD S) : ¬ S.1 2 (nn n) = 2 := fun q => h ⟨hn, kd_pos K hn (by rw [q]; decide)⟩
set_option maxRecDepth 100000 in
set_option maxHeartbeats 4000000 in
theorem k_write (l : Launch) {S : St} {Q : Nat → List Nat} {J : aH} {s n : Int32} {v : Int64} (c : CT S) (R : RJ S Q J) (K : KD S) : AM l yX8_write cX8_write 6 (some .int) (rmm 5 0 0 107) [.ref rO, .int s, .int n, .long v] (ovc S J) (RES (op_write S s n v) J) := by
  refine AM_of RX8 (by decide) rfl [some (.ref rO), some (.int s), some (.int n), some (.long v), none, none] rfl (Nat.le_of_ble_eq_true rfl) (fun Z X hNm => ?_)
  refine V_aload_n X dX8_write_0 rfl rfl ?_
  refine V_iload_n X dX8_write_1 rfl ?_
  apply V_callV1 X dX8_write_2 mk_X8_112 iv_X8_enter (k_enter l c R.ml)
  · exact at_root
  · exact rfl
  · exact Nat.le_of_ble_eq_true rfl
  · exact ⟨Nat.le_of_ble_eq_true rfl, Nat.le_of_ble_eq_true rfl⟩
  · exact ⟨by dsimp only [rmm]; omega, by dsimp only [rmm]; omega⟩
  rintro r I1 (⟨hl, rfl, rfl⟩ | ⟨hl, rfl, rfl⟩)
  · have hs := lack_s hl
    have hi := (ses_ix hs).2
    have R1 : RJ (entP S s) Q J := R.cg
    refine V_ifnonnull X dX8_write_5 14 (by decide) ?_
    refine V_aload_n X dX8_write_14 rfl rfl ?_
    refine V_iload_n X dX8_write_15 rfl ?_
    apply V_callV1 X dX8_write_16 mk_X8_79 iv_X8_variableAt (k_varAt l (S := entP S s) c.cg R1.ml K.cg)
    · exact at_root
    · exact rfl
    · exact Nat.le_of_ble_eq_true rfl
    · exact ⟨Nat.le_of_ble_eq_true rfl, Nat.le_of_ble_eq_true rfl⟩
    · exact ⟨by dsimp only [rmm]; omega, by dsimp only [rmm]; omega⟩
    rintro r I1 ⟨rfl, ⟨hn, rfl⟩ | ⟨hn, rfl⟩⟩
    · have hj := (n_ix (S := entP S s) hn.1).2
      refine V_astore X dX8_write_19 (by decide) rfl rfl ?_
      refine V_aload X dX8_write_21 rfl rfl ?_
      refine V_ifnull X dX8_write_23 ?_
      refine V_aload X dX8_write_26 rfl rfl ?_
      apply V_get X dX8_write_28 fk_X8_134
      · exact at_node (by assumption)
      · exact rfl
      refine V_iconst (v := 2) X dX8_write_31 (by decide) ?_
      refine V_icmp_eq X dX8_write_32 42 (by decide) (fun c_32 => ?_) (fun c_32 => ?_)
      · refine V_aload X dX8_write_42 rfl rfl ?_
        refine V_lload_n X dX8_write_44 rfl ?_
        refine P2_2 X dX8_write_45 fk_X8_82 (by assumption) ?_
        refine V_iconst (v := 1) X dX8_write_48 (by decide) ?_
        refine V_iret X dX8_write_49 ?_ ?_ ?_ ?_
        · exact rfl
        · dsimp only [rmm]; omega
        · dsimp only [rmm]; omega
        exact RES.of (q := op_write S s n v) (by rw [op_write, if_pos (lack_ge.mpr hl), ent_0 hl, if_pos hn.1, if_pos c_32] <;> rfl) R.cg FJ.rf
      refine V_aload_n X dX8_write_35 rfl rfl ?_
      refine V_bipush (v := (-4)) X dX8_write_36 (by decide) ?_
      apply V_callV1 X dX8_write_38 mk_X8_55 iv_X8_refuse (k_refuse l (S := entP S s) (by unfold vp_in; decide) (by decide))
      · exact at_root
      · exact rfl
      · exact Nat.le_of_ble_eq_true rfl
      · exact ⟨Nat.le_of_ble_eq_true rfl, Nat.le_of_ble_eq_true rfl⟩
      · exact ⟨by dsimp only [rmm]; omega, by dsimp only [rmm]; omega⟩
      rintro r I1 ⟨rfl, rfl⟩
      refine V_iret X dX8_write_41 ?_ ?_ ?_ ?_
      · exact rfl
      · dsimp only [rmm]; omega
      · dsimp only [rmm]; omega
      exact RES.of (q := op_write S s n v) (by rw [op_write, if_pos (lack_ge.mpr hl), ent_0 hl, if_pos hn.1, if_neg c_32] <;> rfl) R.cg FJ.rf
    refine V_astore X dX8_write_19 (by decide) rfl rfl ?_
    refine V_aload X dX8_write_21 rfl rfl ?_
    refine V_ifnullN X dX8_write_23 35 (by decide) ?_
    refine V_aload_n X dX8_write_35 rfl rfl ?_
    refine V_bipush (v := (-4)) X dX8_write_36 (by decide) ?_
    apply V_callV1 X dX8_write_38 mk_X8_55 iv_X8_refuse (k_refuse l (S := entP S s) (by unfold vp_in; decide) (by decide))
    · exact at_root
    · exact rfl
    · exact Nat.le_of_ble_eq_true rfl
    · exact ⟨Nat.le_of_ble_eq_true rfl, Nat.le_of_ble_eq_true rfl⟩
    · exact ⟨by dsimp only [rmm]; omega, by dsimp only [rmm]; omega⟩
    rintro r I1 ⟨rfl, rfl⟩
    refine V_iret X dX8_write_41 ?_ ?_ ?_ ?_
    · exact rfl
    · dsimp only [rmm]; omega
    · dsimp only [rmm]; omega
    by_cases hk : isN (entP S s) n
    · exact RES.of (q := op_write S s n v) (by rw [op_write, if_pos (lack_ge.mpr hl), ent_0 hl, if_pos hk, if_neg (wr_n hn hk K.cg)] <;> rfl) R.cg FJ.rf
    · exact RES.of (q := op_write S s n v) (by rw [op_write, if_pos (lack_ge.mpr hl), ent_0 hl, if_neg hk] <;> rfl) R.cg FJ.rf
  refine V_ifnonnullN X dX8_write_5 ?_
  refine V_aload_n X dX8_write_8 rfl rfl ?_
  refine V_iload_n X dX8_write_9 rfl ?_
  apply V_callV1 X dX8_write_10 mk_X8_105 iv_X8_refuseSession (k_refS l c R.ml (lack_no hl))
  · exact at_root
  · exact rfl
  · exact Nat.le_of_ble_eq_true rfl
  · exact ⟨Nat.le_of_ble_eq_true rfl, Nat.le_of_ble_eq_true rfl⟩
  · exact ⟨by dsimp only [rmm]; omega, by dsimp only [rmm]; omega⟩
  rintro r I1 ⟨rfl, rfl⟩
  refine V_iret X dX8_write_13 ?_ ?_ ?_ ?_
  · exact rfl
  · dsimp only [rmm]; omega
  · dsimp only [rmm]; omega
  exact RES.of (q := op_write S s n v) (by rw [op_write, if_neg (fun q => hl (lack_ge.mp q)), ent_1 hl] <;> rfl) R.cg FJ.rf
set_option maxRecDepth 100000 in
set_option maxHeartbeats 4000000 in
theorem k_value (l : Launch) {S : St} {J : aH} : AM l yX8_value cX8_value 1 (some .long) (rmm 0 0 0 0) [.ref rO] (ovc S J) (fun r I' => r = some (.long (S.2 59 0)) ∧ I' = ovc S J) := by
  refine AM_of RX8 (by decide) rfl [some (.ref rO)] rfl (Nat.le_of_ble_eq_true rfl) (fun Z X hNm => ?_)
  refine V_aload_n X dX8_value_0 rfl rfl ?_
  apply V_get X dX8_value_1 fk_X8_39
  · exact at_root
  · exact rfl
  refine V_lret X dX8_value_4 ?_ ?_ ?_
  · dsimp only [rmm]; omega
  · dsimp only [rmm]; omega
  exact ⟨rfl, rfl⟩
set_option maxRecDepth 100000 in
set_option maxHeartbeats 4000000 in
theorem k_acked (l : Launch) {S : St} {J : aH} : AM l yX8_acknowledged cX8_acknowledged 1 (some .int) (rmm 0 0 0 0) [.ref rO] (ovc S J) (fun r I' => r = some (.int (S.1 60 0)) ∧ I' = ovc S J) := by
  refine AM_of RX8 (by decide) rfl [some (.ref rO)] rfl (Nat.le_of_ble_eq_true rfl) (fun Z X hNm => ?_)
  refine V_aload_n X dX8_acknowledged_0 rfl rfl ?_
  apply V_get X dX8_acknowledged_1 fk_X8_43
  · exact at_root
  · exact rfl
  refine V_iret X dX8_acknowledged_4 ?_ ?_ ?_ ?_
  · exact rfl
  · dsimp only [rmm]; omega
  · dsimp only [rmm]; omega
  exact ⟨rfl, rfl⟩
