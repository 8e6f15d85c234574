/-! shut, close, unsubscribe; one out of a list -/
theorem CT.rem {S : St} {s : Int32} (c : CT S) : CT (remS S s) := c.cg (remS_k (by decide) 0) (remS_k (by decide) 0) (remS_k (by decide) 0) (remS_k (by decide) 0) (remS_k (by decide) 0) (remS_k (by decide) 0)
theorem OW.rem {S : St} {s : Int32} (c : OW S) : OW (remS S s) := c.cg (remS_k (by decide) 0) (remS_k (by decide) 0) (remS_k (by decide) 0) (remS_k (by decide) 0) (remS_f (by decide)) (remS_f (by decide)) (remS_f (by decide))
theorem map_ei (f : Nat → Nat) : ∀ (L : List Nat) (y : Nat), (L.map f).eraseIdx y = (L.eraseIdx y).map f
  | [], _ => rfl
  | a :: L, 0 => rfl
  | a :: L, y + 1 => by
    show f a :: (L.map f).eraseIdx y = f a :: (L.eraseIdx y).map f
    rw [map_ei f L y]
theorem erase_fl : ∀ (L : List Nat) (y : Nat), L.Nodup → y < L.length → L.eraseIdx y = L.filter (fun x => !(x == L.getD y 0))
  | [], _, _, h => absurd h (Nat.not_lt_zero _)
  | a :: L, 0, hn, _ => by
    have ha : a ∉ L := (List.nodup_cons.mp hn).1
    show L = (a :: L).filter (fun x => !(x == a))
    rw [List.filter_cons, if_neg (by simp), List.filter_eq_self.mpr]
    intro x hx
    have : x ≠ a := fun e => ha (e ▸ hx)
    simp [this]
  | a :: L, y + 1, hn, hy => by
    obtain ⟨ha, hn'⟩ := List.nodup_cons.mp hn
    have hy' : y < L.length := Nat.lt_of_succ_lt_succ hy
    have hne : a ≠ L.getD y 0 := fun e => ha (e ▸ getD_mem hy')
    show a :: L.eraseIdx y = (a :: L).filter (fun x => !(x == L.getD y 0))
    rw [List.filter_cons, if_pos (show (!(a == L.getD y 0)) = true by rw [beq_false_of_ne hne]; rfl), erase_fl L y hn' hy']
theorem fl_nd {p : Nat → Bool} {n : Nat} : (fl p n).Nodup := List.Pairwise.filter p List.nodup_range
theorem fl_pw {p : Nat → Bool} {n : Nat} : (fl p n).Pairwise (· < ·) := List.Pairwise.filter p List.pairwise_lt_range
theorem fl_srt {p : Nat → Bool} {n j k : Nat} (hjk : j < k) (hk : k < (fl p n).length) : (fl p n).getD j 0 < (fl p n).getD k 0 := by
  have h := List.pairwise_iff_getElem.mp (fl_pw (p := p) (n := n)) j k (by omega) hk hjk
  rw [List.getD_eq_getElem?_getD, List.getD_eq_getElem?_getD, List.getElem?_eq_getElem hk, List.getElem?_eq_getElem (show j < (fl p n).length by omega)]
  exact h
theorem fl_off {p q : Nat → Bool} {n y : Nat} (hy : y < (fl p n).length) (h : ∀ x, x < n → q x = (p x && !(x == (fl p n).getD y 0))) : fl q n = (fl p n).eraseIdx y := by
  rw [erase_fl _ _ fl_nd hy, fl_cg h]
  unfold fl
  rw [List.filter_filter]
  congr 1
  funext x
  exact Bool.and_comm _ _
theorem fl_ix {p : Nat → Bool} {n x : Nat} (h : x ∈ fl p n) : ∃ j, j < (fl p n).length ∧ (fl p n).getD j 0 = x := by
  obtain ⟨j, hj, e⟩ := List.getElem_of_mem h
  refine ⟨j, hj, ?_⟩
  rw [List.getD_eq_getElem?_getD, List.getElem?_eq_getElem hj, e]
  rfl
theorem kp_at {S : St} {b y : Nat} (hy : y < (kpI S b).length) : (kpI S b).getD y 0 < nn (S.1 48 0) ∧ kpP S (nI b) ((kpI S b).getD y 0) := by
  have := fl_mem.mp (getD_mem hy)
  exact ⟨this.1, kpB_iff.mp this.2⟩
theorem it_at {S : St} {b y : Nat} (hy : y < (itI S b).length) : (itI S b).getD y 0 < nn (S.1 32 0) ∧ siP S (nI b) ((itI S b).getD y 0) := by
  have := fl_mem.mp (getD_mem hy)
  exact ⟨this.1, siB_iff.mp this.2⟩
theorem kpI_54 {S : St} {b b' y : Nat} (hy : y < (kpI S b).length) (hne : ¬ nI b' = nI b) : kpI (pa S 54 ((kpI S b).getD y 0) 0) b' = kpI S b' := by
  have h := kp_at hy
  generalize (kpI S b).getD y 0 = m at *
  refine fl_cg fun x hx => Bool.eq_iff_iff.mpr ?_
  rw [kpB_iff, kpB_iff]
  show ¬ (pa S 54 m 0).1 54 x = 0 ∧ S.1 49 x = nI b' ↔ _
  by_cases e : x = m
  · subst e
    exact ⟨fun z => absurd (z.2.symm.trans h.2.2) hne, fun z => absurd (z.2.symm.trans h.2.2) hne⟩
  · rw [pa_i S _ e]
theorem kpI_540 {S : St} {b y : Nat} (hy : y < (kpI S b).length) : kpI (pa S 54 ((kpI S b).getD y 0) 0) b = (kpI S b).eraseIdx y := by
  refine fl_off hy fun x hx => Bool.eq_iff_iff.mpr ?_
  rw [Bool.and_eq_true, kpB_iff, kpB_iff]
  show ¬ (pa S 54 ((kpI S b).getD y 0) 0).1 54 x = 0 ∧ S.1 49 x = nI b ↔ _
  by_cases e : x = (kpI S b).getD y 0
  · rw [e, pa_s]
    refine ⟨fun z => absurd rfl z.1, fun z => ?_⟩
    have h2 : (!((kpI S b).getD y 0 == (kpI S b).getD y 0)) = true := z.2
    rw [beq_self_eq_true] at h2
    exact absurd h2 (by decide)
  · rw [pa_i S _ e]
    have : (!(x == (fl (kpB S (nI b)) (nn (S.1 48 0))).getD y 0)) = true := by
      have : x ≠ (fl (kpB S (nI b)) (nn (S.1 48 0))).getD y 0 := e
      simpa using this
    exact ⟨fun z => ⟨z, this⟩, fun z => z.1⟩
theorem itI_33 {S : St} {b b' y : Nat} (hy : y < (itI S b).length) (hne : ¬ nI b' = nI b) : itI (pa S 33 ((itI S b).getD y 0) 0) b' = itI S b' := by
  have h := it_at hy
  generalize (itI S b).getD y 0 = m at *
  refine fl_cg fun x hx => Bool.eq_iff_iff.mpr ?_
  rw [siB_iff, siB_iff]
  show ¬ (pa S 33 m 0).1 33 x = 0 ∧ S.1 34 x = nI b' ↔ _
  by_cases e : x = m
  · subst e
    exact ⟨fun z => absurd (z.2.symm.trans h.2.2) hne, fun z => absurd (z.2.symm.trans h.2.2) hne⟩
  · rw [pa_i S _ e]
theorem itI_330 {S : St} {b y : Nat} (hy : y < (itI S b).length) : itI (pa S 33 ((itI S b).getD y 0) 0) b = (itI S b).eraseIdx y := by
  refine fl_off hy fun x hx => Bool.eq_iff_iff.mpr ?_
  rw [Bool.and_eq_true, siB_iff, siB_iff]
  show ¬ (pa S 33 ((itI S b).getD y 0) 0).1 33 x = 0 ∧ S.1 34 x = nI b ↔ _
  by_cases e : x = (itI S b).getD y 0
  · rw [e, pa_s]
    refine ⟨fun z => absurd rfl z.1, fun z => ?_⟩
    have h2 : (!((itI S b).getD y 0 == (itI S b).getD y 0)) = true := z.2
    rw [beq_self_eq_true] at h2
    exact absurd h2 (by decide)
  · rw [pa_i S _ e]
    have : (!(x == (fl (siB S (nI b)) (nn (S.1 32 0))).getD y 0)) = true := by
      have : x ≠ (fl (siB S (nI b)) (nn (S.1 32 0))).getD y 0 := e
      simpa using this
    exact ⟨fun z => ⟨z, this⟩, fun z => z.1⟩
theorem ls20r {S S' : St} {Q Q' : Nat → List Nat} {i : Nat} (a1 : S'.1 1 0 = S.1 1 0 := by rfl) (a2 : S'.1 4 0 = S.1 4 0 := by rfl) (a3 : S'.1 8 0 = S.1 8 0 := by rfl) (a4 : S'.1 15 0 = S.1 15 0 := by rfl) (a5 : S'.1 32 0 = S.1 32 0 := by rfl) (a6 : S'.1 48 0 = S.1 48 0 := by rfl) : lsL S' Q' 20 i = lsL S Q 20 i := ls20a (Or.inl a1) (Or.inl a2) (Or.inl a3) (Or.inl a4) (Or.inl a5) (Or.inl a6)
theorem RJ.k54 {S : St} {Q : Nat → List Nat} {J J1 : aH} {b y : Nat} (R : RJ S Q J) (hb : b < nn (S.1 15 0)) (h20 : nn (S.1 15 0) ≤ 20) (hy : y < (kpI S b).length) (F : Fr 26 b J J1) (L1 : LL J1 26 b ((kpL S b).eraseIdx y)) : RJ (pa S 54 ((kpI S b).getD y 0) 0) Q J1 := by
  refine ⟨(R.1.upd (k := 26) rfl F L1).to (lsT ?_ ?_), (R.2.fr (k := 26) rfl F).cg⟩
  · show (if b < nn (S.1 15 0) then some (kpL (pa S 54 ((kpI S b).getD y 0) 0) b) else none) = _
    rw [if_pos hb]
    unfold kpL
    rw [kpI_540 hy, map_ei]
  · intro k i hk hne
    rcases lk_c hk with rfl | rfl | rfl | rfl | rfl
    · exact ls20r
    · exact ls22
    · exact ls24
    · show (if i < nn (S.1 15 0) then some (kpL (pa S 54 ((kpI S b).getD y 0) 0) i) else none) = (if i < nn (S.1 15 0) then some (kpL S i) else none)
      by_cases hi : i < nn (S.1 15 0)
      · rw [if_pos hi, if_pos hi]
        unfold kpL
        rw [kpI_54 hy (fun q => hne ⟨rfl, nI_inj q (by omega) (by omega)⟩)]
      · rw [if_neg hi, if_neg hi]
    · exact ls28
theorem RJ.k33 {S : St} {Q : Nat → List Nat} {J J1 : aH} {b y : Nat} (R : RJ S Q J) (hb : b < nn (S.1 15 0)) (h20 : nn (S.1 15 0) ≤ 20) (hy : y < (itI S b).length) (F : Fr 24 b J J1) (L1 : LL J1 24 b ((itL S b).eraseIdx y)) : RJ (pa S 33 ((itI S b).getD y 0) 0) Q J1 := by
  refine ⟨(R.1.upd (k := 24) rfl F L1).to (lsT ?_ ?_), (R.2.fr (k := 24) rfl F).cg⟩
  · show (if b < nn (S.1 15 0) then some (itL (pa S 33 ((itI S b).getD y 0) 0) b) else none) = _
    rw [if_pos hb]
    unfold itL
    rw [itI_330 hy, map_ei]
  · intro k i hk hne
    rcases lk_c hk with rfl | rfl | rfl | rfl | rfl
    · exact ls20r
    · exact ls22
    · show (if i < nn (S.1 15 0) then some (itL (pa S 33 ((itI S b).getD y 0) 0) i) else none) = (if i < nn (S.1 15 0) then some (itL S i) else none)
      by_cases hi : i < nn (S.1 15 0)
      · rw [if_pos hi, if_pos hi]
        unfold itL
        rw [itI_33 hy (fun q => hne ⟨rfl, nI_inj q (by omega) (by omega)⟩)]
      · rw [if_neg hi, if_neg hi]
    · exact ls26
    · exact ls28
/-- the first kept one of a number -/
theorem fk_hit {S : St} {b y : Nat} {n : Int32} (hy : y < (kpI S b).length) (hn : S.1 50 ((kpI S b).getD y 0) = n) (h : ∀ j, j < y → ¬ S.1 50 ((kpI S b).getD j 0) = n) (h512 : nn (S.1 48 0) ≤ 512) : fkS S (nI b) n = nI ((kpI S b).getD y 0) ∧ 0 ≤ fkS S (nI b) n ∧ nn (fkS S (nI b) n) = (kpI S b).getD y 0 := by
  obtain ⟨h1, h2⟩ := kp_at hy
  have e : frs (fkB S (nI b) n) (nn (S.1 48 0)) = (kpI S b).getD y 0 := by
    refine frs_eq h1 (decide_eq_true ⟨h2.1, h2.2, hn⟩) (fun m hm q => ?_)
    obtain ⟨q1, q2, q3⟩ := of_decide_eq_true q
    obtain ⟨j, hj, ej⟩ := fl_ix (show m ∈ kpI S b from fl_mem.mpr ⟨by omega, kpB_iff.mpr ⟨q1, q2⟩⟩)
    have hj2 : j < y := by
      rcases Nat.lt_trichotomy j y with z | z | z
      · exact z
      · subst z
        have : (kpI S b).getD j 0 = m := ej
        omega
      · have := fl_srt z hj
        have e2 : (kpI S b).getD j 0 = m := ej
        unfold kpI at hm e2
        omega
    exact h j hj2 (by rw [show (kpI S b).getD j 0 = m from ej]; exact q3)
  have e2 : fkS S (nI b) n = nI ((kpI S b).getD y 0) := by
    unfold fkS
    rw [e, if_pos h1]
  refine ⟨e2, ?_, ?_⟩
  · rw [e2, fa_le, nI_toInt (by omega), i0]
    omega
  · rw [e2]
    exact nnI (by omega)
theorem fk_miss {S : St} {b : Nat} {n : Int32} (h : ∀ j, j < (kpI S b).length → ¬ S.1 50 ((kpI S b).getD j 0) = n) : ¬ 0 ≤ fkS S (nI b) n := by
  have e : frs (fkB S (nI b) n) (nn (S.1 48 0)) = nn (S.1 48 0) := by
    refine frs_no (fun m hm q => ?_)
    obtain ⟨q1, q2, q3⟩ := of_decide_eq_true q
    obtain ⟨j, hj, ej⟩ := fl_ix (show m ∈ kpI S b from fl_mem.mpr ⟨hm, kpB_iff.mpr ⟨q1, q2⟩⟩)
    exact h j hj (by rw [show (kpI S b).getD j 0 = m from ej]; exact q3)
  unfold fkS
  rw [e, if_neg (Nat.lt_irrefl _)]
  decide
set_option maxRecDepth 100000 in
set_option maxHeartbeats 4000000 in
theorem shut9_loop {l : Launch} {Z : Zt} {S : St} {Q : Nat → List Nat} {J : aH} {s : Int32} (hs : isSes S s) (hN : nn (S.1 15 0) ≤ 20) (X : Fx Z l (rmm 4 0 0 85) cX8_shut 5 RX8 (some .int) (RES (shutS S s) J)) : ∀ (m y : Nat) (q : St × Nat) (J1 : aH) (o4 : Option Value), nn (S.1 15 0) - y < m → y ≤ nn (S.1 15 0) → q = lpq (sh1 s) y (pa (pa S 11 (nn s) 2) 12 (nn s) 0, 0) → q.1.1 8 0 = S.1 8 0 → nn (q.1.1 15 0) = nn (S.1 15 0) → CT q.1 → OW q.1 → RJ q.1 Q J1 → FJ J J1 → (match o4 with | some (.long _) => False | some (.double _) => False | _ => True) → V Z 5 (ovc q.1 J1) [some (.ref rO), some (.ref (kd 4 (nn s) 0)), some (.int (nI q.2)), some (.int (nI y)), o4] [] 0 0 14
  | 0, _, _, _, _, _, _, _, _, _, _, _, _, _, _ => absurd (by assumption) (Nat.not_lt_zero _)
  | m + 1, y, q, J1, o4, hm, hy, hq, h8, h15, cq, oq, R, F, h4 => by
    refine V_iload_n X dX8_shut_14 rfl ?_
    refine V_aload_n X dX8_shut_15 rfl rfl ?_
    apply V_get X dX8_shut_16 fk_X8_22
    · exact at_root
    · exact rfl
    have h3 := R.ml.2.2.2.1
    rw [h15] at h3
    have hs8 : nn s < nn (q.1.1 8 0) := by rw [h8]; exact (ses_ix hs).2
    apply V_callV0 X dX8_shut_19 mk_X8_59 iv_Jx4a65c_size_8abf5 (k_size l (x := nI (nn (S.1 15 0))) (h3.ov rfl rfl) (by rw [rg_len]))
    · exact ll_o (h3.ov rfl rfl)
    · exact rfl
    · exact Nat.le_of_ble_eq_true rfl
    · exact ⟨Nat.le_of_ble_eq_true rfl, Nat.le_of_ble_eq_true rfl⟩
    · exact ⟨by dsimp only [rmm]; omega, by dsimp only [rmm]; omega⟩
    rintro r I1 ⟨rfl, rfl⟩
    refine V_icmp_ge X dX8_shut_22 69 (by decide) (fun c_22 => ?_) (fun c_22 => ?_)
    · have hx2 : y = nn (S.1 15 0) := by
        rcases Nat.lt_or_ge y (nn (S.1 15 0)) with z | z
        · exact absurd c_22 (nI_ge z (by omega))
        · omega
      refine V_iload_n X dX8_shut_69 rfl ?_
      refine V_iret X dX8_shut_70 ?_ ?_ ?_ ?_
      · exact rfl
      · dsimp only [rmm]; omega
      · dsimp only [rmm]; omega
      refine RES.of (q := shutS S s) ?_ R F
      rw [hq, hx2]
      rfl
    have hlt : y < nn (S.1 15 0) := by
      rcases Nat.lt_or_ge y (nn (S.1 15 0)) with z | z
      · exact z
      · exact absurd (nI_le z (by omega)) c_22
    refine V_aload_n X dX8_shut_25 rfl rfl ?_
    apply V_get X dX8_shut_26 fk_X8_22
    · exact at_root
    · exact rfl
    refine V_iload_n X dX8_shut_29 rfl ?_
    apply V_callV1 X dX8_shut_30 mk_X8_119 iv_Jx4a65c_get_915e3 (k_gti l h3 (by omega) rfl rfl hlt)
    · exact ll_o (h3.ov rfl rfl)
    · exact rfl
    · exact Nat.le_of_ble_eq_true rfl
    · exact ⟨Nat.le_of_ble_eq_true rfl, Nat.le_of_ble_eq_true rfl⟩
    · exact ⟨by dsimp only [rmm]; omega, by dsimp only [rmm]; omega⟩
    rintro r I1 ⟨rfl, rfl⟩
    apply V_cast (ci := 8) X dX8_shut_33 cl_X8_138
    · exact rfl
    · exact at_sub (by omega)
    refine V_astore X dX8_shut_36 (by decide) rfl rfl ?_
    refine V_aload X dX8_shut_38 rfl rfl ?_
    apply V_get X dX8_shut_40 fk_X8_319
    · exact at_sub (by omega)
    · exact rfl
    refine V_if_ne X dX8_shut_43 63 (by decide) (fun c_43 => ?_) (fun c_43 => ?_)
    · refine V_iinc X dX8_shut_63 rfl (by decide) rfl (nI (y + 1)) (nI_1 y) ?_
      refine V_goto X dX8_shut_66 14 (by decide) ?_
      exact shut9_loop hs hN X m (y + 1) q J1 _ (by omega) (by omega) (by rw [lpq, ← hq, sh1, if_pos (gb_0 c_43)]) h8 h15 cq oq R F trivial
    refine V_aload X dX8_shut_46 rfl rfl ?_
    apply V_get X dX8_shut_48 fk_X8_175
    · exact at_sub (by omega)
    · exact rfl
    refine V_aload_n X dX8_shut_51 rfl rfl ?_
    refine V_acmp_ne X dX8_shut_52 63 (by decide) (Or.inl (ne_ses (oq.1 _ (by omega)).2)) (Or.inl (ne_ses hs8)) (fun c_52 => ?_) (fun c_52 => ?_)
    · refine V_iinc X dX8_shut_63 rfl (by decide) rfl (nI (y + 1)) (nI_1 y) ?_
      refine V_goto X dX8_shut_66 14 (by decide) ?_
      exact shut9_loop hs hN X m (y + 1) q J1 _ (by omega) (by omega) (by rw [lpq, ← hq, sh1, if_neg (gb_1 c_43), if_neg (fun z => c_52 (own_ne z))]) h8 h15 cq oq R F trivial
    refine V_aload X dX8_shut_55 rfl rfl ?_
    apply V_callV0 X dX8_shut_57 mk_X8_179 iv_X7_end (k_end l (by omega) cq R)
    · exact at_sub (by omega)
    · exact rfl
    · exact Nat.le_of_ble_eq_true rfl
    · exact ⟨Nat.le_of_ble_eq_true rfl, Nat.le_of_ble_eq_true rfl⟩
    · exact ⟨by dsimp only [rmm]; omega, by dsimp only [rmm]; omega⟩
    rintro r I1 ⟨rfl, J2, rfl, R2, F2⟩
    refine V_iinc X dX8_shut_60 rfl (by decide) rfl (nI (q.2 + 1)) (nI_1 _) ?_
    refine V_iinc X dX8_shut_63 rfl (by decide) rfl (nI (y + 1)) (nI_1 y) ?_
    refine V_goto X dX8_shut_66 14 (by decide) ?_
    exact shut9_loop hs hN X m (y + 1) (remS q.1 (nI y), q.2 + 1) J2 _ (by omega) (by omega) (by rw [lpq, ← hq, sh1, if_neg (gb_1 c_43), if_pos (own_eq (oq.1 _ (by omega)).1 (ses_ix hs).1 c_52)]) ((remS_k (by decide) 0).trans h8) (by rw [← h15]; exact congrArg nn (remS_k (by decide) 0)) cq.rem oq.rem R2 (F.tr F2) trivial
set_option maxRecDepth 100000 in
set_option maxHeartbeats 4000000 in
theorem k_shut (l : Launch) {S : St} {Q : Nat → List Nat} {J : aH} {s : Int32} (hs : isSes S s) (c : CT S) (ow : OW S) (R : RJ S Q J) : AM l yX8_shut cX8_shut 5 (some .int) (rmm 4 0 0 85) [.ref rO, .ref (kd 4 (nn s) 0)] (ovc S J) (RES (shutS S s) J) := by
  have hi := (ses_ix hs).2
  refine AM_of RX8 (by decide) rfl [some (.ref rO), some (.ref (kd 4 (nn s) 0)), none, none, none] rfl (Nat.le_of_ble_eq_true rfl) (fun Z X hNm => ?_)
  refine V_aload_n X dX8_shut_0 rfl rfl ?_
  refine V_iconst (v := 2) X dX8_shut_1 (by decide) ?_
  refine P4_3 X dX8_shut_2 fk_X8_102 (hi) ?_
  refine V_aload_n X dX8_shut_5 rfl rfl ?_
  refine V_iconst (v := 0) X dX8_shut_6 (by decide) ?_
  refine P4_5 X dX8_shut_7 fk_X8_224 (hi) ?_
  refine V_iconst (v := 0) X dX8_shut_10 (by decide) ?_
  refine V_istore_n X dX8_shut_11 (by decide) rfl ?_
  refine V_iconst (v := 0) X dX8_shut_12 (by decide) ?_
  refine V_istore_n X dX8_shut_13 (by decide) rfl ?_
  exact shut9_loop hs (ct_nn c.2.2.2.1 (by decide)).1 X (nn (S.1 15 0) + 1) 0 (pa (pa S 11 (nn s) 2) 12 (nn s) 0, 0) J none (by omega) (Nat.zero_le _) rfl rfl rfl c.cg ow.cg R.cg FJ.rf trivial
set_option maxRecDepth 100000 in
set_option maxHeartbeats 4000000 in
theorem k_close (l : Launch) {S : St} {Q : Nat → List Nat} {J : aH} {s : Int32} (c : CT S) (R : RJ S Q J) (ow : OW S) : AM l yX8_close cX8_close 3 (some .int) (rmm 5 0 0 109) [.ref rO, .int s] (ovc S J) (RES (op_close S s) J) := by
  refine AM_of RX8 (by decide) rfl [some (.ref rO), some (.int s), none] rfl (Nat.le_of_ble_eq_true rfl) (fun Z X hNm => ?_)
  refine V_aload_n X dX8_close_0 rfl rfl ?_
  refine V_iload_n X dX8_close_1 rfl ?_
  apply V_callV1 X dX8_close_2 mk_X8_112 iv_X8_enter (k_enter l c R.ml)
  · exact at_root
  · exact rfl
  · exact Nat.le_of_ble_eq_true rfl
  · exact ⟨Nat.le_of_ble_eq_true rfl, Nat.le_of_ble_eq_true rfl⟩
  · exact ⟨by dsimp only [rmm]; omega, by dsimp only [rmm]; omega⟩
  rintro r I1 (⟨hl, rfl, rfl⟩ | ⟨hl, rfl, rfl⟩)
  · have hs := lack_s hl
    have hi := (ses_ix hs).2
    have R1 : RJ (entP S s) Q J := R.cg
    have m1 := R1.ml
    have c1 : CT (entP S s) := c.cg
    refine V_astore_n X dX8_close_5 (by decide) rfl rfl ?_
    refine V_aload_n X dX8_close_6 rfl rfl ?_
    refine V_ifnonnull X dX8_close_7 16 (by decide) ?_
    refine V_aload_n X dX8_close_16 rfl rfl ?_
    refine V_aload_n X dX8_close_17 rfl rfl ?_
    apply V_callV1 X dX8_close_18 mk_X8_115 iv_X8_shut (k_shut l (S := entP S s) hs c1 ow.cg R1)
    · exact at_root
    · exact rfl
    · exact Nat.le_of_ble_eq_true rfl
    · exact ⟨Nat.le_of_ble_eq_true rfl, Nat.le_of_ble_eq_true rfl⟩
    · exact ⟨by dsimp only [rmm]; omega, by dsimp only [rmm]; omega⟩
    rintro r I1 ⟨rfl, Q2, J2, rfl, R2, F2⟩
    refine V_iret X dX8_close_21 ?_ ?_ ?_ ?_
    · exact rfl
    · dsimp only [rmm]; omega
    · dsimp only [rmm]; omega
    exact RES.of (q := op_close S s) (by rw [op_close, if_pos (lack_ge.mpr hl), ent_0 hl]) R2 F2
  refine V_astore_n X dX8_close_5 (by decide) rfl rfl ?_
  refine V_aload_n X dX8_close_6 rfl rfl ?_
  refine V_ifnonnullN X dX8_close_7 ?_
  refine V_aload_n X dX8_close_10 rfl rfl ?_
  refine V_iload_n X dX8_close_11 rfl ?_
  apply V_callV1 X dX8_close_12 mk_X8_105 iv_X8_refuseSession (k_refS l c R.ml (lack_no hl))
  · exact at_root
  · exact rfl
  · exact Nat.le_of_ble_eq_true rfl
  · exact ⟨Nat.le_of_ble_eq_true rfl, Nat.le_of_ble_eq_true rfl⟩
  · exact ⟨by dsimp only [rmm]; omega, by dsimp only [rmm]; omega⟩
  rintro r I1 ⟨rfl, rfl⟩
  refine V_iret X dX8_close_15 ?_ ?_ ?_ ?_
  · exact rfl
  · dsimp only [rmm]; omega
  · dsimp only [rmm]; omega
  exact RES.of (q := op_close S s) (by rw [op_close, if_neg (fun q => hl (lack_ge.mp q)), ent_1 hl] <;> rfl) R.cg FJ.rf
set_option maxRecDepth 100000 in
set_option maxHeartbeats 4000000 in
theorem k_unsub (l : Launch) {S : St} {Q : Nat → List Nat} {J : aH} {s b : Int32} (c : CT S) (R : RJ S Q J) (ow : OW S) : AM l yX8_unsubscribe cX8_unsubscribe 5 (some .int) (rmm 5 0 0 109) [.ref rO, .int s, .int b] (ovc S J) (RES (op_unsub S s b) J) := by
  refine AM_of RX8 (by decide) rfl [some (.ref rO), some (.int s), some (.int b), none, none] rfl (Nat.le_of_ble_eq_true rfl) (fun Z X hNm => ?_)
  refine V_aload_n X dX8_unsubscribe_0 rfl rfl ?_
  refine V_iload_n X dX8_unsubscribe_1 rfl ?_
  apply V_callV1 X dX8_unsubscribe_2 mk_X8_112 iv_X8_enter (k_enter l c R.ml)
  · exact at_root
  · exact rfl
  · exact Nat.le_of_ble_eq_true rfl
  · exact ⟨Nat.le_of_ble_eq_true rfl, Nat.le_of_ble_eq_true rfl⟩
  · exact ⟨by dsimp only [rmm]; omega, by dsimp only [rmm]; omega⟩
  rintro r I1 (⟨hl, rfl, rfl⟩ | ⟨hl, rfl, rfl⟩)
  · have hs := lack_s hl
    have hi := (ses_ix hs).2
    have R1 : RJ (entP S s) Q J := R.cg
    have m1 := R1.ml
    have c1 : CT (entP S s) := c.cg
    refine V_astore_n X dX8_unsubscribe_5 (by decide) rfl rfl ?_
    refine V_aload_n X dX8_unsubscribe_6 rfl rfl ?_
    refine V_ifnonnull X dX8_unsubscribe_7 16 (by decide) ?_
    refine V_aload_n X dX8_unsubscribe_16 rfl rfl ?_
    refine V_aload_n X dX8_unsubscribe_17 rfl rfl ?_
    refine V_iload_n X dX8_unsubscribe_18 rfl ?_
    apply V_callV2 X dX8_unsubscribe_19 mk_X8_153 iv_X8_subscriptionOf (k_subOf l (S := entP S s) c.cg R1.ml ow.cg hs)
    · exact at_root
    · exact rfl
    · exact Nat.le_of_ble_eq_true rfl
    · exact ⟨Nat.le_of_ble_eq_true rfl, Nat.le_of_ble_eq_true rfl⟩
    · exact ⟨by dsimp only [rmm]; omega, by dsimp only [rmm]; omega⟩
    rintro r I1 ⟨rfl, ⟨hb, rfl⟩ | ⟨hb, rfl⟩⟩
    · have hj := (sub_ix (S := entP S s) hb.1.1).2
      refine V_astore X dX8_unsubscribe_22 (by decide) rfl rfl ?_
      refine V_aload X dX8_unsubscribe_24 rfl rfl ?_
      refine V_ifnonnull X dX8_unsubscribe_26 36 (by decide) ?_
      refine V_aload X dX8_unsubscribe_36 rfl rfl ?_
      apply V_callV0 X dX8_unsubscribe_38 mk_X8_179 iv_X7_end (k_end l (S := entP S s) hj c1 R1)
      · exact at_sub (hj)
      · exact rfl
      · exact Nat.le_of_ble_eq_true rfl
      · exact ⟨Nat.le_of_ble_eq_true rfl, Nat.le_of_ble_eq_true rfl⟩
      · exact ⟨by dsimp only [rmm]; omega, by dsimp only [rmm]; omega⟩
      rintro r I1 ⟨rfl, J2, rfl, R2, F2⟩
      refine V_iconst (v := 1) X dX8_unsubscribe_41 (by decide) ?_
      refine V_iret X dX8_unsubscribe_42 ?_ ?_ ?_ ?_
      · exact rfl
      · dsimp only [rmm]; omega
      · dsimp only [rmm]; omega
      refine RES.of (q := op_unsub S s b) ?_ R2 F2
      rw [op_unsub, if_pos (lkB_0 hl hb), ent_0 hl, ← (sub_ix (S := entP S s) hb.1.1).1]
    refine V_astore X dX8_unsubscribe_22 (by decide) rfl rfl ?_
    refine V_aload X dX8_unsubscribe_24 rfl rfl ?_
    refine V_ifnonnullN X dX8_unsubscribe_26 ?_
    refine V_aload_n X dX8_unsubscribe_29 rfl rfl ?_
    refine V_bipush (v := (-5)) X dX8_unsubscribe_30 (by decide) ?_
    apply V_callV1 X dX8_unsubscribe_32 mk_X8_55 iv_X8_refuse (k_refuse l (S := entP S s) (by unfold vp_in; decide) (by decide))
    · exact at_root
    · exact rfl
    · exact Nat.le_of_ble_eq_true rfl
    · exact ⟨Nat.le_of_ble_eq_true rfl, Nat.le_of_ble_eq_true rfl⟩
    · exact ⟨by dsimp only [rmm]; omega, by dsimp only [rmm]; omega⟩
    rintro r I1 ⟨rfl, rfl⟩
    refine V_iret X dX8_unsubscribe_35 ?_ ?_ ?_ ?_
    · exact rfl
    · dsimp only [rmm]; omega
    · dsimp only [rmm]; omega
    exact RES.of (q := op_unsub S s b) (by rw [op_unsub, if_neg (lkB_5 hl hb).2, (lkB_5 hl hb).1, ent_0 hl] <;> rfl) R.cg FJ.rf
  refine V_astore_n X dX8_unsubscribe_5 (by decide) rfl rfl ?_
  refine V_aload_n X dX8_unsubscribe_6 rfl rfl ?_
  refine V_ifnonnullN X dX8_unsubscribe_7 ?_
  refine V_aload_n X dX8_unsubscribe_10 rfl rfl ?_
  refine V_iload_n X dX8_unsubscribe_11 rfl ?_
  apply V_callV1 X dX8_unsubscribe_12 mk_X8_105 iv_X8_refuseSession (k_refS l c R.ml (lack_no hl))
  · exact at_root
  · exact rfl
  · exact Nat.le_of_ble_eq_true rfl
  · exact ⟨Nat.le_of_ble_eq_true rfl, Nat.le_of_ble_eq_true rfl⟩
  · exact ⟨by dsimp only [rmm]; omega, by dsimp only [rmm]; omega⟩
  rintro r I1 ⟨rfl, rfl⟩
  refine V_iret X dX8_unsubscribe_15 ?_ ?_ ?_ ?_
  · exact rfl
  · dsimp only [rmm]; omega
  · dsimp only [rmm]; omega
  exact RES.of (q := op_unsub S s b) (by rw [op_unsub, if_neg (lkB_n hl).2, (lkB_n hl).1, ent_1 hl] <;> rfl) R.cg FJ.rf
set_option maxRecDepth 100000 in
set_option maxHeartbeats 4000000 in
theorem remI_loop {l : Launch} {Z : Zt} {S : St} {Q : Nat → List Nat} {J : aH} {b i : Nat} (hb : b < nn (S.1 15 0)) (h20 : nn (S.1 15 0) ≤ 20) (h60 : nn (S.1 32 0) ≤ 60) (R : RJ S Q J) (hi : i < nn (S.1 32 0)) (hs : siP S (nI b) i) (X : Fx Z l (rmm 3 0 0 106) cX7_remove 3 RX7 none (VR (pa S 33 i 0) Q J)) : ∀ (m y : Nat), (itI S b).length - y < m → y ≤ (itI S b).length → (∀ j, j < y → ¬ (itI S b).getD j 0 = i) → V Z 3 (ovc (pa S 33 i 0) J) [some (.ref (kd 5 b 0)), some (.ref (kd 6 i 0)), some (.int (nI y))] [] 0 0 7
  | 0, _, _, _, _ => absurd (by assumption) (Nat.not_lt_zero _)
  | m + 1, y, hm, hy, hin => by
    refine V_iload_n X dX7_remove_7 rfl ?_
    refine V_aload_n X dX7_remove_8 rfl rfl ?_
    apply V_get X dX7_remove_9 fk_X7_10
    · exact at_sub (by assumption)
    · exact rfl
    have hle := itI_len (S := S) (b := b)
    have h24 := R.its hb
    apply V_callV0 X dX7_remove_12 mk_X7_84 iv_Jx4a65c_size_8abf5 (k_size l (x := nI (itI S b).length) (h24.ov rfl rfl) (by rw [itL_len]))
    · exact ll_o (h24.ov rfl rfl)
    · exact rfl
    · exact Nat.le_of_ble_eq_true rfl
    · exact ⟨Nat.le_of_ble_eq_true rfl, Nat.le_of_ble_eq_true rfl⟩
    · exact ⟨by dsimp only [rmm]; omega, by dsimp only [rmm]; omega⟩
    rintro r I1 ⟨rfl, rfl⟩
    refine V_icmp_ge X dX7_remove_15 46 (by decide) (fun c_15 => ?_) (fun c_15 => ?_)
    · have hx2 : y = (itI S b).length := by
        rcases Nat.lt_or_ge y ((itI S b).length) with z | z
        · exact absurd c_15 (nI_ge z (by omega))
        · omega
      refine V_vret X dX7_remove_46 ?_ ?_ ?_
      · dsimp only [rmm]; omega
      · dsimp only [rmm]; omega
      obtain ⟨j, hj1, hj2⟩ := fl_ix (show i ∈ itI S b from fl_mem.mpr ⟨hi, siB_iff.mpr hs⟩)
      exact absurd hj2 (hin j (by rw [hx2]; exact hj1))
    have hlt : y < (itI S b).length := by
      rcases Nat.lt_or_ge y ((itI S b).length) with z | z
      · exact z
      · exact absurd (nI_le z (by omega)) c_15
    refine V_aload_n X dX7_remove_18 rfl rfl ?_
    apply V_get X dX7_remove_19 fk_X7_10
    · exact at_sub (by assumption)
    · exact rfl
    refine V_iload_n X dX7_remove_22 rfl ?_
    apply V_callV1 X dX7_remove_23 mk_X7_87 iv_Jx4a65c_get_915e3 (k_gtm l h24 (by omega) rfl rfl hlt)
    · exact ll_o (h24.ov rfl rfl)
    · exact rfl
    · exact Nat.le_of_ble_eq_true rfl
    · exact ⟨Nat.le_of_ble_eq_true rfl, Nat.le_of_ble_eq_true rfl⟩
    · exact ⟨by dsimp only [rmm]; omega, by dsimp only [rmm]; omega⟩
    rintro r I1 ⟨rfl, rfl⟩
    have hj := itI_lt hlt
    refine V_aload_n X dX7_remove_26 rfl rfl ?_
    refine V_acmp_ne X dX7_remove_27 40 (by decide) (Or.inl (ne_it hj)) (Or.inl (ne_it hi)) (fun c_27 => ?_) (fun c_27 => ?_)
    · refine V_iinc X dX7_remove_40 rfl (by decide) rfl (nI (y + 1)) (nI_1 y) ?_
      refine V_goto X dX7_remove_43 7 (by decide) ?_
      exact remI_loop hb h20 h60 R hi hs X m (y + 1) (by omega) (by omega) (upto hin (fun q => c_27 (by rw [q])))
    have ei : (itI S b).getD y 0 = i := (kd_eq.mp c_27).2.1
    refine V_aload_n X dX7_remove_30 rfl rfl ?_
    apply V_get X dX7_remove_31 fk_X7_10
    · exact at_sub (by assumption)
    · exact rfl
    refine V_iload_n X dX7_remove_34 rfl ?_
    apply V_callV1 X dX7_remove_35 mk_X7_113 iv_Jx4a65c_remove_915e3 (c_remove l (j := y) (by decide) (h24.ov rfl rfl) (by rw [itL_len]; omega) (by rw [itL_len]; exact hlt) (fun a ha => by obtain ⟨x, hx, rfl⟩ := List.mem_map.mp ha; exact eo_it (fl_mem.mp hx).1))
    · exact ll_o (h24.ov rfl rfl)
    · exact rfl
    · exact Nat.le_of_ble_eq_true rfl
    · exact ⟨Nat.le_of_ble_eq_true rfl, Nat.le_of_ble_eq_true rfl⟩
    · exact ⟨by dsimp only [rmm]; omega, by dsimp only [rmm]; omega⟩
    rintro r I1 ⟨rfl, hL, hF⟩
    obtain ⟨J2, rfl, hL1, hF1⟩ := LL_ov hF hL rfl rfl
    refine V_pop X dX7_remove_38 rfl ?_
    refine V_vret X dX7_remove_39 ?_ ?_ ?_
    · dsimp only [rmm]; omega
    · dsimp only [rmm]; omega
    refine ⟨rfl, J2, rfl, ?_, hF1.fj (k := 24) rfl⟩
    rw [← ei]
    exact R.k33 hb h20 hlt hF1 hL1
set_option maxRecDepth 100000 in
set_option maxHeartbeats 4000000 in
theorem k_remI (l : Launch) {S : St} {Q : Nat → List Nat} {J : aH} {b i : Nat} (hb : b < nn (S.1 15 0)) (c : CT S) (R : RJ S Q J) (hi : i < nn (S.1 32 0)) (hs : siP S (nI b) i) : AM l yX7_remove cX7_remove 3 none (rmm 3 0 0 106) [.ref (kd 5 b 0), .ref (kd 6 i 0)] (ovc S J) (VR (pa S 33 i 0) Q J) := by
  refine AM_of RX7 (by decide) rfl [some (.ref (kd 5 b 0)), some (.ref (kd 6 i 0)), none] rfl (Nat.le_of_ble_eq_true rfl) (fun Z X hNm => ?_)
  refine V_aload_n X dX7_remove_0 rfl rfl ?_
  refine V_iconst (v := 1) X dX7_remove_1 (by decide) ?_
  refine P6_10 X dX7_remove_2 fk_X7_125 (hi) ?_
  refine V_iconst (v := 0) X dX7_remove_5 (by decide) ?_
  refine V_istore_n X dX7_remove_6 (by decide) rfl ?_
  exact remI_loop hb (ct_nn c.2.2.2.1 (by decide)).1 (ct_nn c.2.2.2.2.1 (by decide)).1 R hi hs X ((itI S b).length + 1) 0 (by omega) (Nat.zero_le _) (fun j hj => absurd hj (Nat.not_lt_zero _))
set_option maxRecDepth 100000 in
set_option maxHeartbeats 4000000 in
theorem kof_loop {l : Launch} {Z : Zt} {S : St} {J : aH} {b : Nat} {n : Int32} (hb : b < nn (S.1 15 0)) (h512 : nn (S.1 48 0) ≤ 512) (h26 : LL J 26 b (kpL S b)) (X : Fx Z l (rmm 3 0 0 64) cX7_keptOf 3 RX7 (some (.object "WatchServer$Message")) (fun r I' => I' = ovc S J ∧ ((0 ≤ fkS S (nI b) n ∧ r = some (.ref (kd 8 (nn (fkS S (nI b) n)) 0))) ∨ (¬ 0 ≤ fkS S (nI b) n ∧ r = some .null)))) : ∀ (m y : Nat), (kpI S b).length - y < m → y ≤ (kpI S b).length → (∀ j, j < y → ¬ S.1 50 ((kpI S b).getD j 0) = n) → V Z 3 (ovc S J) [some (.ref (kd 5 b 0)), some (.int n), some (.int (nI y))] [] 0 0 2
  | 0, _, _, _, _ => absurd (by assumption) (Nat.not_lt_zero _)
  | m + 1, y, hm, hy, hin => by
    refine V_iload_n X dX7_keptOf_2 rfl ?_
    refine V_aload_n X dX7_keptOf_3 rfl rfl ?_
    apply V_get X dX7_keptOf_4 fk_X7_16
    · exact at_sub (by assumption)
    · exact rfl
    have hle := kpI_len (S := S) (b := b)
    apply V_callV0 X dX7_keptOf_7 mk_X7_84 iv_Jx4a65c_size_8abf5 (k_size l (x := nI (kpI S b).length) (h26.ov rfl rfl) (by rw [kpL_len]))
    · exact ll_o (h26.ov rfl rfl)
    · exact rfl
    · exact Nat.le_of_ble_eq_true rfl
    · exact ⟨Nat.le_of_ble_eq_true rfl, Nat.le_of_ble_eq_true rfl⟩
    · exact ⟨by dsimp only [rmm]; omega, by dsimp only [rmm]; omega⟩
    rintro r I1 ⟨rfl, rfl⟩
    refine V_icmp_ge X dX7_keptOf_10 49 (by decide) (fun c_10 => ?_) (fun c_10 => ?_)
    · have hx2 : y = (kpI S b).length := by
        rcases Nat.lt_or_ge y ((kpI S b).length) with z | z
        · exact absurd c_10 (nI_ge z (by omega))
        · omega
      refine V_null X dX7_keptOf_49 ?_
      refine V_aret X dX7_keptOf_50 (Or.inl ⟨_, rfl⟩) rfl ?_ ?_ ?_
      · dsimp only [rmm]; omega
      · dsimp only [rmm]; omega
      exact ⟨rfl, Or.inr ⟨fk_miss (by rw [← hx2]; exact hin), rfl⟩⟩
    have hlt : y < (kpI S b).length := by
      rcases Nat.lt_or_ge y ((kpI S b).length) with z | z
      · exact z
      · exact absurd (nI_le z (by omega)) c_10
    refine V_aload_n X dX7_keptOf_13 rfl rfl ?_
    apply V_get X dX7_keptOf_14 fk_X7_16
    · exact at_sub (by assumption)
    · exact rfl
    refine V_iload_n X dX7_keptOf_17 rfl ?_
    apply V_callV1 X dX7_keptOf_18 mk_X7_87 iv_Jx4a65c_get_915e3 (k_gtm l h26 (by omega) rfl rfl hlt)
    · exact ll_o (h26.ov rfl rfl)
    · exact rfl
    · exact Nat.le_of_ble_eq_true rfl
    · exact ⟨Nat.le_of_ble_eq_true rfl, Nat.le_of_ble_eq_true rfl⟩
    · exact ⟨by dsimp only [rmm]; omega, by dsimp only [rmm]; omega⟩
    rintro r I1 ⟨rfl, rfl⟩
    have hj := kpI_lt hlt
    apply V_cast (ci := 3) X dX7_keptOf_21 cl_X7_116
    · exact rfl
    · exact at_ms hj
    apply V_get X dX7_keptOf_24 fk_X7_124
    · exact at_ms (hj)
    · exact rfl
    refine V_iload_n X dX7_keptOf_27 rfl ?_
    refine V_icmp_ne X dX7_keptOf_28 43 (by decide) (fun c_28 => ?_) (fun c_28 => ?_)
    · refine V_iinc X dX7_keptOf_43 rfl (by decide) rfl (nI (y + 1)) (nI_1 y) ?_
      refine V_goto X dX7_keptOf_46 2 (by decide) ?_
      exact kof_loop hb h512 h26 X m (y + 1) (by omega) (by omega) (upto hin c_28)
    refine V_aload_n X dX7_keptOf_31 rfl rfl ?_
    apply V_get X dX7_keptOf_32 fk_X7_16
    · exact at_sub (by assumption)
    · exact rfl
    refine V_iload_n X dX7_keptOf_35 rfl ?_
    apply V_callV1 X dX7_keptOf_36 mk_X7_87 iv_Jx4a65c_get_915e3 (k_gtm l h26 (by omega) rfl rfl hlt)
    · exact ll_o (h26.ov rfl rfl)
    · exact rfl
    · exact Nat.le_of_ble_eq_true rfl
    · exact ⟨Nat.le_of_ble_eq_true rfl, Nat.le_of_ble_eq_true rfl⟩
    · exact ⟨by dsimp only [rmm]; omega, by dsimp only [rmm]; omega⟩
    rintro r I1 ⟨rfl, rfl⟩
    apply V_cast (ci := 3) X dX7_keptOf_39 cl_X7_116
    · exact rfl
    · exact at_ms hj
    refine V_aret X dX7_keptOf_42 (Or.inl ⟨_, rfl⟩) rfl ?_ ?_ ?_
    · dsimp only [rmm]; omega
    · dsimp only [rmm]; omega
    obtain ⟨e1, e2, e3⟩ := fk_hit hlt c_28 hin h512
    exact ⟨rfl, Or.inl ⟨e2, by rw [e3]⟩⟩
set_option maxRecDepth 100000 in
set_option maxHeartbeats 4000000 in
theorem k_keptOf (l : Launch) {S : St} {Q : Nat → List Nat} {J : aH} {b : Nat} {n : Int32} (hb : b < nn (S.1 15 0)) (c : CT S) (R : RJ S Q J) : AM l yX7_keptOf cX7_keptOf 3 (some (.object "WatchServer$Message")) (rmm 3 0 0 64) [.ref (kd 5 b 0), .int n] (ovc S J) (fun r I' => I' = ovc S J ∧ ((0 ≤ fkS S (nI b) n ∧ r = some (.ref (kd 8 (nn (fkS S (nI b) n)) 0))) ∨ (¬ 0 ≤ fkS S (nI b) n ∧ r = some .null))) := by
  refine AM_of RX7 (by decide) rfl [some (.ref (kd 5 b 0)), some (.int n), none] rfl (Nat.le_of_ble_eq_true rfl) (fun Z X hNm => ?_)
  refine V_iconst (v := 0) X dX7_keptOf_0 (by decide) ?_
  refine V_istore_n X dX7_keptOf_1 (by decide) rfl ?_
  exact kof_loop hb (ct_nn c.2.2.2.2.2 (by decide)).1 (R.kps hb) X ((kpI S b).length + 1) 0 (by omega) (Nat.zero_le _) (fun j hj => absurd hj (Nat.not_lt_zero _))
set_option maxRecDepth 100000 in
set_option maxHeartbeats 4000000 in
theorem fgt_loop {l : Launch} {Z : Zt} {S : St} {Q : Nat → List Nat} {J : aH} {b : Nat} {n : Int32} (hb : b < nn (S.1 15 0)) (h20 : nn (S.1 15 0) ≤ 20) (h512 : nn (S.1 48 0) ≤ 512) (R : RJ S Q J) (X : Fx Z l (rmm 3 0 0 106) cX7_forget 3 RX7 (some .boolean) (fun r I' => (0 ≤ fkS S (nI b) n ∧ r = some (.int 1) ∧ ∃ J', I' = ovc (pa S 54 (nn (fkS S (nI b) n)) 0) J' ∧ RJ (pa S 54 (nn (fkS S (nI b) n)) 0) Q J' ∧ FJ J J') ∨ (¬ 0 ≤ fkS S (nI b) n ∧ r = some (.int 0) ∧ I' = ovc S J))) : ∀ (m y : Nat), (kpI S b).length - y < m → y ≤ (kpI S b).length → (∀ j, j < y → ¬ S.1 50 ((kpI S b).getD j 0) = n) → V Z 3 (ovc S J) [some (.ref (kd 5 b 0)), some (.int n), some (.int (nI y))] [] 0 0 2
  | 0, _, _, _, _ => absurd (by assumption) (Nat.not_lt_zero _)
  | m + 1, y, hm, hy, hin => by
    refine V_iload_n X dX7_forget_2 rfl ?_
    refine V_aload_n X dX7_forget_3 rfl rfl ?_
    apply V_get X dX7_forget_4 fk_X7_16
    · exact at_sub (by assumption)
    · exact rfl
    have hle := kpI_len (S := S) (b := b)
    have h26 := R.kps hb
    apply V_callV0 X dX7_forget_7 mk_X7_84 iv_Jx4a65c_size_8abf5 (k_size l (x := nI (kpI S b).length) (h26.ov rfl rfl) (by rw [kpL_len]))
    · exact ll_o (h26.ov rfl rfl)
    · exact rfl
    · exact Nat.le_of_ble_eq_true rfl
    · exact ⟨Nat.le_of_ble_eq_true rfl, Nat.le_of_ble_eq_true rfl⟩
    · exact ⟨by dsimp only [rmm]; omega, by dsimp only [rmm]; omega⟩
    rintro r I1 ⟨rfl, rfl⟩
    refine V_icmp_ge X dX7_forget_10 63 (by decide) (fun c_10 => ?_) (fun c_10 => ?_)
    · have hx2 : y = (kpI S b).length := by
        rcases Nat.lt_or_ge y ((kpI S b).length) with z | z
        · exact absurd c_10 (nI_ge z (by omega))
        · omega
      refine V_iconst (v := 0) X dX7_forget_63 (by decide) ?_
      refine V_iret X dX7_forget_64 ?_ ?_ ?_ ?_
      · exact rfl
      · dsimp only [rmm]; omega
      · dsimp only [rmm]; omega
      exact Or.inr ⟨fk_miss (by rw [← hx2]; exact hin), rfl, rfl⟩
    have hlt : y < (kpI S b).length := by
      rcases Nat.lt_or_ge y ((kpI S b).length) with z | z
      · exact z
      · exact absurd (nI_le z (by omega)) c_10
    refine V_aload_n X dX7_forget_13 rfl rfl ?_
    apply V_get X dX7_forget_14 fk_X7_16
    · exact at_sub (by assumption)
    · exact rfl
    refine V_iload_n X dX7_forget_17 rfl ?_
    apply V_callV1 X dX7_forget_18 mk_X7_87 iv_Jx4a65c_get_915e3 (k_gtm l h26 (by omega) rfl rfl hlt)
    · exact ll_o (h26.ov rfl rfl)
    · exact rfl
    · exact Nat.le_of_ble_eq_true rfl
    · exact ⟨Nat.le_of_ble_eq_true rfl, Nat.le_of_ble_eq_true rfl⟩
    · exact ⟨by dsimp only [rmm]; omega, by dsimp only [rmm]; omega⟩
    rintro r I1 ⟨rfl, rfl⟩
    have hj := kpI_lt hlt
    apply V_cast (ci := 3) X dX7_forget_21 cl_X7_116
    · exact rfl
    · exact at_ms hj
    apply V_get X dX7_forget_24 fk_X7_124
    · exact at_ms (hj)
    · exact rfl
    refine V_iload_n X dX7_forget_27 rfl ?_
    refine V_icmp_ne X dX7_forget_28 57 (by decide) (fun c_28 => ?_) (fun c_28 => ?_)
    · refine V_iinc X dX7_forget_57 rfl (by decide) rfl (nI (y + 1)) (nI_1 y) ?_
      refine V_goto X dX7_forget_60 2 (by decide) ?_
      exact fgt_loop hb h20 h512 R X m (y + 1) (by omega) (by omega) (upto hin c_28)
    refine V_aload_n X dX7_forget_31 rfl rfl ?_
    apply V_get X dX7_forget_32 fk_X7_16
    · exact at_sub (by assumption)
    · exact rfl
    refine V_iload_n X dX7_forget_35 rfl ?_
    apply V_callV1 X dX7_forget_36 mk_X7_87 iv_Jx4a65c_get_915e3 (k_gtm l h26 (by omega) rfl rfl hlt)
    · exact ll_o (h26.ov rfl rfl)
    · exact rfl
    · exact Nat.le_of_ble_eq_true rfl
    · exact ⟨Nat.le_of_ble_eq_true rfl, Nat.le_of_ble_eq_true rfl⟩
    · exact ⟨by dsimp only [rmm]; omega, by dsimp only [rmm]; omega⟩
    rintro r I1 ⟨rfl, rfl⟩
    apply V_cast (ci := 3) X dX7_forget_39 cl_X7_116
    · exact rfl
    · exact at_ms hj
    refine V_iconst (v := 0) X dX7_forget_42 (by decide) ?_
    refine P8_6 X dX7_forget_43 fk_X7_118 (hj) (Or.inl rfl) ?_
    refine V_aload_n X dX7_forget_46 rfl rfl ?_
    apply V_get X dX7_forget_47 fk_X7_16
    · exact at_sub (by assumption)
    · exact rfl
    refine V_iload_n X dX7_forget_50 rfl ?_
    apply V_callV1 X dX7_forget_51 mk_X7_113 iv_Jx4a65c_remove_915e3 (c_remove l (j := y) (by decide) (h26.ov rfl rfl) (by rw [kpL_len]; omega) (by rw [kpL_len]; exact hlt) (fun a ha => by obtain ⟨x, hx, rfl⟩ := List.mem_map.mp ha; exact eo_ms (fl_mem.mp hx).1))
    · exact ll_o (h26.ov rfl rfl)
    · exact rfl
    · exact Nat.le_of_ble_eq_true rfl
    · exact ⟨Nat.le_of_ble_eq_true rfl, Nat.le_of_ble_eq_true rfl⟩
    · exact ⟨by dsimp only [rmm]; omega, by dsimp only [rmm]; omega⟩
    rintro r I1 ⟨rfl, hL, hF⟩
    obtain ⟨J2, rfl, hL1, hF1⟩ := LL_ov hF hL rfl rfl
    refine V_pop X dX7_forget_54 rfl ?_
    refine V_iconst (v := 1) X dX7_forget_55 (by decide) ?_
    refine V_iret X dX7_forget_56 ?_ ?_ ?_ ?_
    · exact rfl
    · dsimp only [rmm]; omega
    · dsimp only [rmm]; omega
    obtain ⟨e1, e2, e3⟩ := fk_hit hlt c_28 hin h512
    refine Or.inl ⟨e2, rfl, J2, by rw [e3], ?_, hF1.fj (k := 26) rfl⟩
    rw [e3]
    exact R.k54 hb h20 hlt hF1 hL1
set_option maxRecDepth 100000 in
set_option maxHeartbeats 4000000 in
theorem k_forget (l : Launch) {S : St} {Q : Nat → List Nat} {J : aH} {b : Nat} {n : Int32} (hb : b < nn (S.1 15 0)) (c : CT S) (R : RJ S Q J) : AM l yX7_forget cX7_forget 3 (some .boolean) (rmm 3 0 0 106) [.ref (kd 5 b 0), .int n] (ovc S J) (fun r I' => (0 ≤ fkS S (nI b) n ∧ r = some (.int 1) ∧ ∃ J', I' = ovc (pa S 54 (nn (fkS S (nI b) n)) 0) J' ∧ RJ (pa S 54 (nn (fkS S (nI b) n)) 0) Q J' ∧ FJ J J') ∨ (¬ 0 ≤ fkS S (nI b) n ∧ r = some (.int 0) ∧ I' = ovc S J)) := by
  refine AM_of RX7 (by decide) rfl [some (.ref (kd 5 b 0)), some (.int n), none] rfl (Nat.le_of_ble_eq_true rfl) (fun Z X hNm => ?_)
  refine V_iconst (v := 0) X dX7_forget_0 (by decide) ?_
  refine V_istore_n X dX7_forget_1 (by decide) rfl ?_
  exact fgt_loop hb (ct_nn c.2.2.2.1 (by decide)).1 (ct_nn c.2.2.2.2.2 (by decide)).1 R X ((kpI S b).length + 1) 0 (by omega) (Nat.zero_le _) (fun j hj => absurd hj (Nat.not_lt_zero _))
