/-! the invariant that the reference's places need -/
def sumN (f : Nat → Nat) : Nat → Nat
  | 0 => 0
  | n + 1 => sumN f n + f n
theorem sumN_cong {f g : Nat → Nat} : ∀ {n : Nat}, (∀ j, j < n → f j = g j) → sumN f n = sumN g n
  | 0, _ => rfl
  | n + 1, h => by rw [sumN, sumN, sumN_cong (fun j hj => h j (by omega)), h n (by omega)]
theorem sumN_upd {f g : Nat → Nat} {i : Nat} : ∀ {n : Nat}, i < n → (∀ j, j ≠ i → g j = f j) → sumN g n + f i = sumN f n + g i
  | 0, h, _ => absurd h (Nat.not_lt_zero _)
  | n + 1, h, hg => by
    rw [sumN, sumN]
    by_cases e : i = n
    · subst e
      rw [sumN_cong (f := g) (g := f) (fun j hj => hg j (by omega))]
      omega
    · have := sumN_upd (n := n) (by omega) hg
      rw [hg n (fun q => e q.symm)]
      omega
theorem sumN_le {f : Nat → Nat} {i : Nat} : ∀ {n : Nat}, i < n → f i ≤ sumN f n
  | 0, h => absurd h (Nat.not_lt_zero _)
  | n + 1, h => by
    rw [sumN]
    by_cases e : i = n
    · subst e; omega
    · have := sumN_le (f := f) (n := n) (i := i) (by omega)
      omega
def tot (S : St) : Nat := sumN (fun s => nn (S.1 12 s) + nn (S.1 13 s)) 12
def ml (S : St) : Nat := sumN (fun s => nn (S.1 13 s)) 12
/-- the fields that Iv speaks of -/
abbrev ivF (k : Nat) : Bool := k == 8 || k == 15 || k == 32 || k == 48 || k == 44 || k == 38 || k == 35 || k == 34 || k == 17 || k == 22 || k == 12 || k == 13 || k == 19 || k == 37
def IvQ (S : St) (i : Nat) : Prop := sm (S.1 44 i) 8 ∧ sm (S.1 38 i) 8 ∧ nn (S.1 44 i) ≤ nn (S.1 38 i) ∧ sm (S.1 35 i) 39 ∧ sm (S.1 34 i) 19
def Iv (c : Nat) (S : St) : Prop := (ct S 8 12 ∧ ct S 15 20 ∧ ct S 32 60 ∧ ct S 48 512) ∧ (∀ i, i < 60 → IvQ S i) ∧ (∀ b, b < 20 → sm (S.1 17 b) 11 ∧ sm (S.1 22 b) 10) ∧ (∀ s, s < 12 → sm (S.1 12 s) 4 ∧ sm (S.1 13 s) 512) ∧ (tot S ≤ c ∧ c ≤ 512 ∧ nn (S.1 48 0) ≤ ml S) ∧ (∀ b, b < nn (S.1 15 0) → 1 ≤ nn (S.1 19 b) ∧ sm (S.1 19 b) 100) ∧ (∀ i, i < nn (S.1 32 0) → 1 ≤ nn (S.1 37 i) ∧ sm (S.1 37 i) 100 ∧ 1 ≤ nn (S.1 38 i))
theorem ct_of {S S' : St} {k b : Nat} (h : S'.1 k 0 = S.1 k 0) (hc : ct S k b) : ct S' k b := by
  obtain ⟨N, h1, h2⟩ := hc
  exact ⟨N, h1, h.trans h2⟩
theorem ct_up {S : St} {k b b' : Nat} (h : ct S k b) (hb : b ≤ b') : ct S k b' := by
  obtain ⟨N, h1, h2⟩ := h
  exact ⟨N, by omega, h2⟩
theorem Iv.cong {c : Nat} {S S' : St} (h : ∀ k, ivF k = true → ∀ i, S'.1 k i = S.1 k i) (hI : Iv c S) : Iv c S' := by
  obtain ⟨⟨c1, c2, c3, c4⟩, h2, h3, h4, h5, h6, h7⟩ := hI
  have e8 := h 8 rfl
  have e15 := h 15 rfl
  have e32 := h 32 rfl
  have e48 := h 48 rfl
  have et : tot S' = tot S := sumN_cong fun j _ => by rw [h 12 rfl, h 13 rfl]
  have em : ml S' = ml S := sumN_cong fun j _ => by rw [h 13 rfl]
  refine ⟨⟨ct_of (e8 0) c1, ct_of (e15 0) c2, ct_of (e32 0) c3, ct_of (e48 0) c4⟩, fun i hi => ?_, fun b hb => ?_, fun s hs => ?_, ?_, fun b hb => ?_, fun i hi => ?_⟩
  · unfold IvQ
    rw [h 44 rfl, h 38 rfl, h 35 rfl, h 34 rfl]
    exact h2 i hi
  · rw [h 17 rfl, h 22 rfl]; exact h3 b hb
  · rw [h 12 rfl, h 13 rfl]; exact h4 s hs
  · rw [et, em, e48]; exact h5
  · rw [h 19 rfl]; exact h6 b (by rw [e15] at hb; exact hb)
  · rw [h 37 rfl, h 38 rfl]; exact h7 i (by rw [e32] at hi; exact hi)
theorem lp_f {f : Nat → St → St} {p : Nat → Bool} (h : ∀ n S k, p k = true → ∀ i, (f n S).1 k i = S.1 k i) : ∀ (n : Nat) (S : St) (k : Nat), p k = true → ∀ i, (lp f n S).1 k i = S.1 k i
  | 0, _, _, _, _ => rfl
  | n + 1, S, k, hk, i => (h n _ k hk i).trans (lp_f h n S k hk i)
/-- removing touches three fields -/
theorem remS_k {S : St} {s : Int32} {k : Nat} (h : k ≠ 16 ∧ k ≠ 33 ∧ k ≠ 54) (i : Nat) : (remS S s).1 k i = S.1 k i := by
  unfold remS dkS
  dsimp only
  rw [lp_k (dk1_k h.2.2), lp_k (ir1_k h.2.1), pa_n S _ h.1]
theorem dk1_2 {s num : Int32} (n : Nat) (S : St) : (dk1 s num n S).2 = S.2 := by
  unfold dk1
  split
  · rfl
  · split
    · split
      · rfl
      · split <;> rfl
    · rfl
theorem lp_2 {f : Nat → St → St} (h : ∀ n S, (f n S).2 = S.2) : ∀ (n : Nat) (S : St), (lp f n S).2 = S.2
  | 0, _ => rfl
  | n + 1, S => (h n _).trans (lp_2 h n S)
theorem remS_2 {S : St} {s : Int32} : (remS S s).2 = S.2 := by
  unfold remS dkS
  dsimp only
  rw [lp_2 dk1_2, lp_2 (f := ir1 s) (fun _ _ => rfl)]
  rfl
theorem ivF_rem {k : Nat} (h : ivF k = true) : k ≠ 16 ∧ k ≠ 33 ∧ k ≠ 54 := by
  refine ⟨?_, ?_, ?_⟩ <;> (rintro rfl; exact absurd h (by decide))
theorem Iv.rem {c : Nat} {S : St} {s : Int32} (h : Iv c S) : Iv c (remS S s) := h.cong fun k hk i => remS_k (ivF_rem hk) i
theorem Iv.put {c : Nat} {S : St} {k i : Nat} {x : Int32} (hk : ivF k = false) (h : Iv c S) : Iv c (pa S k i x) := h.cong fun k' hk' i' => pa_n S _ (fun e => by rw [e, hk] at hk'; cases hk')
theorem Iv.putL {c : Nat} {S : St} {k i : Nat} {x : Int64} (h : Iv c S) : Iv c (pb S k i x) := h.cong fun _ _ _ => rfl
/-- shut -/
def lpq (f : Nat → St × Nat → St × Nat) : Nat → St × Nat → St × Nat
  | 0, q => q
  | n + 1, q => f n (lpq f n q)
def sh1 (s : Int32) (k : Nat) (q : St × Nat) : St × Nat := if q.1.1 16 k = 0 then q else if q.1.1 17 k = s then (remS q.1 (nI k), q.2 + 1) else q
def shutS (S : St) (s : Int32) : St × Int32 := let S1 := pa (pa S 11 (nn s) 2) 12 (nn s) 0; let q := lpq (sh1 s) (nn (S1.1 15 0)) (S1, 0); (q.1, nI q.2)
theorem sh1_k {s : Int32} {k : Nat} (h : k ≠ 16 ∧ k ≠ 33 ∧ k ≠ 54) (n : Nat) (q : St × Nat) (i : Nat) : (sh1 s n q).1.1 k i = q.1.1 k i := by
  unfold sh1
  split
  · rfl
  · split
    · exact remS_k h i
    · rfl
theorem lpq_k {s : Int32} {k : Nat} (h : k ≠ 16 ∧ k ≠ 33 ∧ k ≠ 54) : ∀ (n : Nat) (q : St × Nat) (i : Nat), (lpq (sh1 s) n q).1.1 k i = q.1.1 k i
  | 0, _, _ => rfl
  | n + 1, q, i => (sh1_k h n _ i).trans (lpq_k h n q i)
theorem lpq_c {s : Int32} : ∀ (n : Nat) (q : St × Nat), (lpq (sh1 s) n q).2 ≤ q.2 + n
  | 0, _ => Nat.le_refl _
  | n + 1, q => by
    have := lpq_c (s := s) n q
    rw [lpq, sh1]
    split
    · omega
    · split
      · dsimp only; omega
      · omega
set_option maxRecDepth 100000 in
set_option maxHeartbeats 4000000 in
theorem shut_loop {l : Launch} {Z : Zt} {S : St} {J : aH} {s : Int32} {N : Nat} (hN : N ≤ 20) (e15 : S.1 15 0 = nI N) (h32 : ct S 32 60) (h48 : ct S 48 900) (X : Fx Z l (rmm 2 0 0 50) cX9_shut 4 RX9 (some .int) (fun r I' => r = some (.int (shutS S s).2) ∧ I' = ovl (shutS S s).1 J)) : ∀ (m x : Nat) (q : St × Nat), N - x < m → x ≤ N → q = lpq (sh1 s) x ((pa (pa S 11 (nn s) 2) 12 (nn s) 0), 0) → V Z 4 (ovl q.1 J) [some (.ref mO), some (.int s), some (.int (nI q.2)), some (.int (nI x))] [] 0 0 18
  | 0, _, _, _, _, _ => absurd (by assumption) (Nat.not_lt_zero _)
  | m + 1, x, q, hm, hx, hq => by
    refine V_iload_n X dX9_shut_18 rfl ?_
    refine V_aload_n X dX9_shut_19 rfl rfl ?_
    refine M_geti X dX9_shut_20 fk_X9_224 (by decide) rfl ?_
    have ek : ∀ k, k ≠ 16 ∧ k ≠ 33 ∧ k ≠ 54 → k ≠ 11 → k ≠ 12 → ∀ i, q.1.1 k i = S.1 k i := by
      intro k h1 h2 h3 i
      rw [hq, lpq_k h1]
      show (pa (pa S 11 _ _) 12 _ _).1 k i = _
      rw [pa_n _ _ h3, pa_n _ _ h2]
    have e15b : q.1.1 15 0 = nI N := (ek 15 (by decide) (by decide) (by decide) 0).trans e15
    rw [e15b]
    refine V_icmp_ge X dX9_shut_23 59 (by decide) (fun c_23 => ?_) (fun c_23 => ?_)
    · have hx2 : x = N := by
        rcases Nat.lt_or_ge x N with z | z
        · exact absurd c_23 (nI_ge z (by omega))
        · omega
      refine V_iload_n X dX9_shut_59 rfl ?_
      refine V_iret X dX9_shut_60 ?_ ?_ ?_ ?_
      · exact rfl
      · dsimp only [rmm]; omega
      · dsimp only [rmm]; omega
      have e : shutS S s = (q.1, nI q.2) := by
        rw [shutS, show ((pa (pa S 11 (nn s) 2) 12 (nn s) 0)).1 15 0 = nI N from by rw [pa_n _ _ (by decide), pa_n _ _ (by decide)]; exact e15, show nn (nI N) = N from nI_clamp (by omega), hq, hx2]
      rw [e]
      exact ⟨rfl, rfl⟩
    have hlt : x < N := by
      rcases Nat.lt_or_ge x N with z | z
      · exact z
      · exact absurd (nI_le z (by omega)) c_23
    refine V_aload_n X dX9_shut_26 rfl rfl ?_
    refine M_geta X dX9_shut_27 fk_X9_44 (by decide) rfl ?_
    refine V_iload_n X dX9_shut_30 rfl ?_
    refine M_zaldN X dX9_shut_31 (by decide) rfl (by omega) (by decide) ?_
    refine V_if_eq X dX9_shut_32 53 (by decide) (fun c_32 => ?_) (fun c_32 => ?_)
    · refine V_iinc X dX9_shut_53 rfl (by decide) rfl (nI (x + 1)) (nI_1 x) ?_
      refine V_goto X dX9_shut_56 18 (by decide) ?_
      exact shut_loop hN e15 h32 h48 X m (x + 1) q (by omega) (by omega) (by rw [lpq, ← hq, sh1, if_pos c_32])
    refine V_aload_n X dX9_shut_35 rfl rfl ?_
    refine M_geta X dX9_shut_36 fk_X9_48 (by decide) rfl ?_
    refine V_iload_n X dX9_shut_39 rfl ?_
    refine M_ialdN X dX9_shut_40 (by decide) rfl (by omega) (by decide) ?_
    refine V_iload_n X dX9_shut_41 rfl ?_
    refine V_icmp_ne X dX9_shut_42 53 (by decide) (fun c_42 => ?_) (fun c_42 => ?_)
    · refine V_iinc X dX9_shut_53 rfl (by decide) rfl (nI (x + 1)) (nI_1 x) ?_
      refine V_goto X dX9_shut_56 18 (by decide) ?_
      exact shut_loop hN e15 h32 h48 X m (x + 1) q (by omega) (by omega) (by rw [lpq, ← hq, sh1, if_neg c_32, if_neg c_42])
    refine V_aload_n X dX9_shut_45 rfl rfl ?_
    refine V_iload_n X dX9_shut_46 rfl ?_
    apply V_callV1 X dX9_shut_47 mk_X9_227 iv_X9_removeSub (c_removeSub l (vp_in_nI2 (by omega) (by omega)) (ct_of (ek 32 (by decide) (by decide) (by decide) 0) h32) (ct_of (ek 48 (by decide) (by decide) (by decide) 0) h48))
    · first | assumption | exact hu_s | exact (hu_n (by first | exact kd_nk (by decide) | exact kd_ni (by omega) | exact kd_ng (by omega) | assumption | exact Ne.symm (by assumption))).trans (by first | assumption | exact hu_s | exact (hu_n (by first | exact kd_nk (by decide) | exact kd_ni (by omega) | exact kd_ng (by omega) | assumption | exact Ne.symm (by assumption))).trans (by first | assumption | exact hu_s | exact (hu_n (by first | exact kd_nk (by decide) | exact kd_ni (by omega) | exact kd_ng (by omega) | assumption | exact Ne.symm (by assumption))).trans (by first | assumption | exact hu_s)))
    · exact rfl
    · exact Nat.le_of_ble_eq_true rfl
    · exact ⟨Nat.le_of_ble_eq_true rfl, Nat.le_of_ble_eq_true rfl⟩
    · exact ⟨by dsimp only [rmm]; omega, by dsimp only [rmm]; omega⟩
    rintro r I1 ⟨rfl, rfl⟩
    refine V_iinc X dX9_shut_50 rfl (by decide) rfl (nI (q.2 + 1)) (nI_1 _) ?_
    refine V_iinc X dX9_shut_53 rfl (by decide) rfl (nI (x + 1)) (nI_1 x) ?_
    refine V_goto X dX9_shut_56 18 (by decide) ?_
    exact shut_loop hN e15 h32 h48 X m (x + 1) (remS q.1 (nI x), q.2 + 1) (by omega) (by omega) (by rw [lpq, ← hq, sh1, if_neg c_32, if_pos c_42])
set_option maxRecDepth 100000 in
set_option maxHeartbeats 4000000 in
theorem c_shut (l : Launch) {S : St} {J : aH} {s : Int32} (hs : vp_in s 12) (h15 : ct S 15 20) (h32 : ct S 32 60) (h48 : ct S 48 900) : AM l yX9_shut cX9_shut 4 (some .int) (rmm 2 0 0 50) [.ref mO, .int s] (ovl S J) (fun r I' => r = some (.int (shutS S s).2) ∧ I' = ovl (shutS S s).1 J) := by
  obtain ⟨N, hN, e15⟩ := h15
  refine AM_of RX9 (by decide) rfl [some (.ref mO), some (.int s), none, none] rfl (Nat.le_of_ble_eq_true rfl) (fun Z X hNm => ?_)
  refine V_aload_n X dX9_shut_0 rfl rfl ?_
  refine M_geta X dX9_shut_1 fk_X9_32 (by decide) rfl ?_
  refine V_iload_n X dX9_shut_4 rfl ?_
  refine V_iconst (v := 2) X dX9_shut_5 (by decide) ?_
  refine M_iast X dX9_shut_6 (by decide) rfl (hs) ?_
  refine V_aload_n X dX9_shut_7 rfl rfl ?_
  refine M_geta X dX9_shut_8 fk_X9_35 (by decide) rfl ?_
  refine V_iload_n X dX9_shut_11 rfl ?_
  refine V_iconst (v := 0) X dX9_shut_12 (by decide) ?_
  refine M_iast X dX9_shut_13 (by decide) rfl (hs) ?_
  refine V_iconst (v := 0) X dX9_shut_14 (by decide) ?_
  refine V_istore_n X dX9_shut_15 (by decide) rfl ?_
  refine V_iconst (v := 0) X dX9_shut_16 (by decide) ?_
  refine V_istore_n X dX9_shut_17 (by decide) rfl ?_
  exact shut_loop hN e15 h32 h48 X (N + 1) 0 ((pa (pa S 11 (nn s) 2) 12 (nn s) 0), 0) (by omega) (Nat.zero_le _) rfl
def op_close (S : St) (s : Int32) : St × Int32 := let S1 := entS S s; if 0 ≤ lackS S s then shutS S1 s else rr S1 (lackS S s)
def op_unsub (S : St) (s b : Int32) : St × Int32 := let S1 := entS S s; if 0 ≤ lkB S s b then (remS S1 b, 1) else rr S1 (lkB S s b)
theorem lack_ses {S : St} {s : Int32} (h : 0 ≤ lackS S s) : isSes S s := by
  by_cases q : isSes S s
  · exact q
  · rw [lackS, if_neg q] at h
    exact absurd h (by decide)
set_option maxRecDepth 100000 in
set_option maxHeartbeats 4000000 in
theorem m_close (l : Launch) {S : St} {J : aH} {s : Int32} (h8 : ct S 8 12) (h15 : ct S 15 20) (h32 : ct S 32 60) (h48 : ct S 48 900) : AM l yX9_close cX9_close 3 (some .int) (rmm 3 0 0 80) [.ref mO, .int s] (ovl S J) (fun r I' => r = some (.int (op_close S s).2) ∧ I' = ovl (op_close S s).1 J) := by
  refine AM_of RX9 (by decide) rfl [some (.ref mO), some (.int s), none] rfl (Nat.le_of_ble_eq_true rfl) (fun Z X hNm => ?_)
  refine V_aload_n X dX9_close_0 rfl rfl ?_
  refine V_iload_n X dX9_close_1 rfl ?_
  apply V_callV1 X dX9_close_2 mk_X9_260 iv_X9_lacks (c_lacks l h8)
  · first | assumption | exact hu_s | exact (hu_n (by first | exact kd_nk (by decide) | exact kd_ni (by omega) | exact kd_ng (by omega) | assumption | exact Ne.symm (by assumption))).trans (by first | assumption | exact hu_s | exact (hu_n (by first | exact kd_nk (by decide) | exact kd_ni (by omega) | exact kd_ng (by omega) | assumption | exact Ne.symm (by assumption))).trans (by first | assumption | exact hu_s | exact (hu_n (by first | exact kd_nk (by decide) | exact kd_ni (by omega) | exact kd_ng (by omega) | assumption | exact Ne.symm (by assumption))).trans (by first | assumption | exact hu_s)))
  · exact rfl
  · exact Nat.le_of_ble_eq_true rfl
  · exact ⟨Nat.le_of_ble_eq_true rfl, Nat.le_of_ble_eq_true rfl⟩
  · exact ⟨by dsimp only [rmm]; omega, by dsimp only [rmm]; omega⟩
  rintro r I1 ⟨rfl, rfl⟩
  refine V_istore_n X dX9_close_5 (by decide) rfl ?_
  refine V_iload_n X dX9_close_6 rfl ?_
  refine V_if_ge X dX9_close_7 18 (by decide) (fun c_7 => ?_) (fun c_7 => ?_)
  · refine V_aload_n X dX9_close_18 rfl rfl ?_
    refine V_iload_n X dX9_close_19 rfl ?_
    apply V_callV1 X dX9_close_20 mk_X9_251 iv_X9_shut (c_shut l (ses_in h8 (lack_ses c_7)) (ct_ent h15 (by decide)) (ct_ent h32 (by decide)) (ct_ent h48 (by decide)))
    · first | assumption | exact hu_s | exact (hu_n (by first | exact kd_nk (by decide) | exact kd_ni (by omega) | exact kd_ng (by omega) | assumption | exact Ne.symm (by assumption))).trans (by first | assumption | exact hu_s | exact (hu_n (by first | exact kd_nk (by decide) | exact kd_ni (by omega) | exact kd_ng (by omega) | assumption | exact Ne.symm (by assumption))).trans (by first | assumption | exact hu_s | exact (hu_n (by first | exact kd_nk (by decide) | exact kd_ni (by omega) | exact kd_ng (by omega) | assumption | exact Ne.symm (by assumption))).trans (by first | assumption | exact hu_s)))
    · exact rfl
    · exact Nat.le_of_ble_eq_true rfl
    · exact ⟨Nat.le_of_ble_eq_true rfl, Nat.le_of_ble_eq_true rfl⟩
    · exact ⟨by dsimp only [rmm]; omega, by dsimp only [rmm]; omega⟩
    rintro r I1 ⟨rfl, rfl⟩
    refine V_iret X dX9_close_23 ?_ ?_ ?_ ?_
    · exact rfl
    · dsimp only [rmm]; omega
    · dsimp only [rmm]; omega
    refine ⟨?_, ?_⟩ <;> rw [op_close, if_pos c_7]
  refine V_aload_n X dX9_close_10 rfl rfl ?_
  refine V_iload_n X dX9_close_11 rfl ?_
  apply V_callV1 X dX9_close_12 mk_X9_175 iv_X9_refuse (c_refuse9 l (x := lackS S s) (lackS_in c_7))
  · first | assumption | exact hu_s | exact (hu_n (by first | exact kd_nk (by decide) | exact kd_ni (by omega) | exact kd_ng (by omega) | assumption | exact Ne.symm (by assumption))).trans (by first | assumption | exact hu_s | exact (hu_n (by first | exact kd_nk (by decide) | exact kd_ni (by omega) | exact kd_ng (by omega) | assumption | exact Ne.symm (by assumption))).trans (by first | assumption | exact hu_s | exact (hu_n (by first | exact kd_nk (by decide) | exact kd_ni (by omega) | exact kd_ng (by omega) | assumption | exact Ne.symm (by assumption))).trans (by first | assumption | exact hu_s)))
  · exact rfl
  · exact Nat.le_of_ble_eq_true rfl
  · exact ⟨Nat.le_of_ble_eq_true rfl, Nat.le_of_ble_eq_true rfl⟩
  · exact ⟨by dsimp only [rmm]; omega, by dsimp only [rmm]; omega⟩
  rintro r I1 ⟨rfl, rfl⟩
  refine V_goto X dX9_close_15 23 (by decide) ?_
  refine V_iret X dX9_close_23 ?_ ?_ ?_ ?_
  · exact rfl
  · dsimp only [rmm]; omega
  · dsimp only [rmm]; omega
  refine ⟨?_, ?_⟩ <;> rw [op_close, if_neg c_7]
set_option maxRecDepth 100000 in
set_option maxHeartbeats 4000000 in
theorem m_unsub (l : Launch) {S : St} {J : aH} {s b : Int32} (h8 : ct S 8 12) (h15 : ct S 15 20) (h32 : ct S 32 60) (h48 : ct S 48 900) : AM l yX9_unsubscribe cX9_unsubscribe 4 (some .int) (rmm 3 0 0 80) [.ref mO, .int s, .int b] (ovl S J) (fun r I' => r = some (.int (op_unsub S s b).2) ∧ I' = ovl (op_unsub S s b).1 J) := by
  refine AM_of RX9 (by decide) rfl [some (.ref mO), some (.int s), some (.int b), none] rfl (Nat.le_of_ble_eq_true rfl) (fun Z X hNm => ?_)
  refine V_aload_n X dX9_unsubscribe_0 rfl rfl ?_
  refine V_iload_n X dX9_unsubscribe_1 rfl ?_
  refine V_iload_n X dX9_unsubscribe_2 rfl ?_
  apply V_callV2 X dX9_unsubscribe_3 mk_X9_283 iv_X9_lacksSub (c_lacksSub l h8 h15)
  · first | assumption | exact hu_s | exact (hu_n (by first | exact kd_nk (by decide) | exact kd_ni (by omega) | exact kd_ng (by omega) | assumption | exact Ne.symm (by assumption))).trans (by first | assumption | exact hu_s | exact (hu_n (by first | exact kd_nk (by decide) | exact kd_ni (by omega) | exact kd_ng (by omega) | assumption | exact Ne.symm (by assumption))).trans (by first | assumption | exact hu_s | exact (hu_n (by first | exact kd_nk (by decide) | exact kd_ni (by omega) | exact kd_ng (by omega) | assumption | exact Ne.symm (by assumption))).trans (by first | assumption | exact hu_s)))
  · exact rfl
  · exact Nat.le_of_ble_eq_true rfl
  · exact ⟨Nat.le_of_ble_eq_true rfl, Nat.le_of_ble_eq_true rfl⟩
  · exact ⟨by dsimp only [rmm]; omega, by dsimp only [rmm]; omega⟩
  rintro r I1 ⟨rfl, rfl⟩
  refine V_istore_n X dX9_unsubscribe_6 (by decide) rfl ?_
  refine V_iload_n X dX9_unsubscribe_7 rfl ?_
  refine V_if_ge X dX9_unsubscribe_8 17 (by decide) (fun c_8 => ?_) (fun c_8 => ?_)
  · refine V_aload_n X dX9_unsubscribe_17 rfl rfl ?_
    refine V_iload_n X dX9_unsubscribe_18 rfl ?_
    apply V_callV1 X dX9_unsubscribe_19 mk_X9_227 iv_X9_removeSub (c_removeSub l (sub_in (ct_ent h15 (by decide)) (lkB_ok c_8).2.1.1) (ct_ent h32 (by decide)) (ct_ent h48 (by decide)))
    · first | assumption | exact hu_s | exact (hu_n (by first | exact kd_nk (by decide) | exact kd_ni (by omega) | exact kd_ng (by omega) | assumption | exact Ne.symm (by assumption))).trans (by first | assumption | exact hu_s | exact (hu_n (by first | exact kd_nk (by decide) | exact kd_ni (by omega) | exact kd_ng (by omega) | assumption | exact Ne.symm (by assumption))).trans (by first | assumption | exact hu_s | exact (hu_n (by first | exact kd_nk (by decide) | exact kd_ni (by omega) | exact kd_ng (by omega) | assumption | exact Ne.symm (by assumption))).trans (by first | assumption | exact hu_s)))
    · exact rfl
    · exact Nat.le_of_ble_eq_true rfl
    · exact ⟨Nat.le_of_ble_eq_true rfl, Nat.le_of_ble_eq_true rfl⟩
    · exact ⟨by dsimp only [rmm]; omega, by dsimp only [rmm]; omega⟩
    rintro r I1 ⟨rfl, rfl⟩
    refine V_iconst (v := 1) X dX9_unsubscribe_22 (by decide) ?_
    refine V_iret X dX9_unsubscribe_23 ?_ ?_ ?_ ?_
    · exact rfl
    · dsimp only [rmm]; omega
    · dsimp only [rmm]; omega
    refine ⟨?_, ?_⟩ <;> rw [op_unsub, if_pos c_8]
  refine V_aload_n X dX9_unsubscribe_11 rfl rfl ?_
  refine V_iload_n X dX9_unsubscribe_12 rfl ?_
  apply V_callV1 X dX9_unsubscribe_13 mk_X9_175 iv_X9_refuse (c_refuse9 l (x := lkB S s b) (lkB_in c_8))
  · first | assumption | exact hu_s | exact (hu_n (by first | exact kd_nk (by decide) | exact kd_ni (by omega) | exact kd_ng (by omega) | assumption | exact Ne.symm (by assumption))).trans (by first | assumption | exact hu_s | exact (hu_n (by first | exact kd_nk (by decide) | exact kd_ni (by omega) | exact kd_ng (by omega) | assumption | exact Ne.symm (by assumption))).trans (by first | assumption | exact hu_s | exact (hu_n (by first | exact kd_nk (by decide) | exact kd_ni (by omega) | exact kd_ng (by omega) | assumption | exact Ne.symm (by assumption))).trans (by first | assumption | exact hu_s)))
  · exact rfl
  · exact Nat.le_of_ble_eq_true rfl
  · exact ⟨Nat.le_of_ble_eq_true rfl, Nat.le_of_ble_eq_true rfl⟩
  · exact ⟨by dsimp only [rmm]; omega, by dsimp only [rmm]; omega⟩
  rintro r I1 ⟨rfl, rfl⟩
  refine V_iret X dX9_unsubscribe_16 ?_ ?_ ?_ ?_
  · exact rfl
  · dsimp only [rmm]; omega
  · dsimp only [rmm]; omega
  refine ⟨?_, ?_⟩ <;> rw [op_unsub, if_neg c_8]
def lateS (S : St) (s : Int32) : St := if S.1 28 (nn s) = 0 then (let A := pa S 28 (nn s) 1; let B := pa A 30 0 (A.1 30 0 + 1); pa B 29 (nn s) (B.1 30 0)) else S
def shortS (S : St) (s : Int32) : St := let S2 := pa (lateS S s) 26 (nn s) ((lateS S s).1 26 (nn s) - 1); if 0 < S2.1 26 (nn s) then S2 else remS S2 s
theorem Iv.late {c : Nat} {S : St} {s : Int32} (h : Iv c S) : Iv c (lateS S s) := by
  unfold lateS
  split
  · exact ((h.put rfl).put rfl).put rfl
  · exact h
theorem Iv.short {c : Nat} {S : St} {s : Int32} (h : Iv c S) : Iv c (shortS S s) := by
  have h1 := h.late (s := s)
  unfold shortS
  generalize lateS S s = T at h1 ⊢
  dsimp only
  split
  · exact Iv.put (k := 26) rfl h1
  · exact (Iv.put (k := 26) rfl h1).rem
set_option maxRecDepth 100000 in
set_option maxHeartbeats 4000000 in
theorem c_short (l : Launch) {S : St} {J : aH} {s : Int32} (hb : vp_in s 20) (h32 : ct S 32 60) (h48 : ct S 48 900) : AM l yX9_isShort cX9_isShort 2 none (rmm 2 0 0 50) [.ref mO, .int s] (ovl S J) (fun r I' => r = none ∧ I' = ovl (shortS S s) J) := by
  refine AM_of RX9 (by decide) rfl [some (.ref mO), some (.int s)] rfl (Nat.le_of_ble_eq_true rfl) (fun Z X hNm => ?_)
  refine V_aload_n X dX9_isShort_0 rfl rfl ?_
  refine M_geta X dX9_isShort_1 fk_X9_81 (by decide) rfl ?_
  refine V_iload_n X dX9_isShort_4 rfl ?_
  refine M_zald X dX9_isShort_5 (by decide) rfl (hb) ?_
  refine V_if_ne X dX9_isShort_6 36 (by decide) (fun c_6 => ?_) (fun c_6 => ?_)
  · refine V_aload_n X dX9_isShort_36 rfl rfl ?_
    refine M_geta X dX9_isShort_37 fk_X9_75 (by decide) rfl ?_
    refine V_iload_n X dX9_isShort_40 rfl ?_
    refine V_dup2 X dX9_isShort_41 rfl rfl ?_
    refine M_iald X dX9_isShort_42 (by decide) rfl (hb) ?_
    refine V_iconst (v := 1) X dX9_isShort_43 (by decide) ?_
    refine V_isub X dX9_isShort_44 ?_
    refine M_iast X dX9_isShort_45 (by decide) rfl (hb) ?_
    refine V_aload_n X dX9_isShort_46 rfl rfl ?_
    refine M_geta X dX9_isShort_47 fk_X9_75 (by decide) rfl ?_
    refine V_iload_n X dX9_isShort_50 rfl ?_
    refine M_iald X dX9_isShort_51 (by decide) rfl (hb) ?_
    refine V_if_gt X dX9_isShort_52 60 (by decide) (fun c_52 => ?_) (fun c_52 => ?_)
    · refine V_vret X dX9_isShort_60 ?_ ?_ ?_
      · dsimp only [rmm]; omega
      · dsimp only [rmm]; omega
      refine ⟨rfl, ?_⟩
      simp only [shortS, lateS, if_neg c_6, if_pos c_52]
    refine V_aload_n X dX9_isShort_55 rfl rfl ?_
    refine V_iload_n X dX9_isShort_56 rfl ?_
    apply V_callV1 X dX9_isShort_57 mk_X9_227 iv_X9_removeSub (c_removeSub l hb (ct_of (by rw [pa_n _ _ (by decide)]) h32) (ct_of (by rw [pa_n _ _ (by decide)]) h48))
    · first | assumption | exact hu_s | exact (hu_n (by first | exact kd_nk (by decide) | exact kd_ni (by omega) | exact kd_ng (by omega) | assumption | exact Ne.symm (by assumption))).trans (by first | assumption | exact hu_s | exact (hu_n (by first | exact kd_nk (by decide) | exact kd_ni (by omega) | exact kd_ng (by omega) | assumption | exact Ne.symm (by assumption))).trans (by first | assumption | exact hu_s | exact (hu_n (by first | exact kd_nk (by decide) | exact kd_ni (by omega) | exact kd_ng (by omega) | assumption | exact Ne.symm (by assumption))).trans (by first | assumption | exact hu_s)))
    · exact rfl
    · exact Nat.le_of_ble_eq_true rfl
    · exact ⟨Nat.le_of_ble_eq_true rfl, Nat.le_of_ble_eq_true rfl⟩
    · exact ⟨by dsimp only [rmm]; omega, by dsimp only [rmm]; omega⟩
    rintro r I1 ⟨rfl, rfl⟩
    refine V_vret X dX9_isShort_60 ?_ ?_ ?_
    · dsimp only [rmm]; omega
    · dsimp only [rmm]; omega
    refine ⟨rfl, ?_⟩
    simp only [shortS, lateS, if_neg c_6, if_neg c_52]
  refine V_aload_n X dX9_isShort_9 rfl rfl ?_
  refine M_geta X dX9_isShort_10 fk_X9_81 (by decide) rfl ?_
  refine V_iload_n X dX9_isShort_13 rfl ?_
  refine V_iconst (v := 1) X dX9_isShort_14 (by decide) ?_
  refine M_zast X dX9_isShort_15 (by decide) rfl (hb) (rfl) ?_
  refine V_aload_n X dX9_isShort_16 rfl rfl ?_
  refine V_dup X dX9_isShort_17 rfl ?_
  refine M_geti X dX9_isShort_18 fk_X9_230 (by decide) rfl ?_
  refine V_iconst (v := 1) X dX9_isShort_21 (by decide) ?_
  refine V_iadd X dX9_isShort_22 ?_
  refine M_put X dX9_isShort_23 fk_X9_230 (by decide) rfl ?_
  refine V_aload_n X dX9_isShort_26 rfl rfl ?_
  refine M_geta X dX9_isShort_27 fk_X9_84 (by decide) rfl ?_
  refine V_iload_n X dX9_isShort_30 rfl ?_
  refine V_aload_n X dX9_isShort_31 rfl rfl ?_
  refine M_geti X dX9_isShort_32 fk_X9_230 (by decide) rfl ?_
  refine M_iast X dX9_isShort_35 (by decide) rfl (hb) ?_
  refine V_aload_n X dX9_isShort_36 rfl rfl ?_
  refine M_geta X dX9_isShort_37 fk_X9_75 (by decide) rfl ?_
  refine V_iload_n X dX9_isShort_40 rfl ?_
  refine V_dup2 X dX9_isShort_41 rfl rfl ?_
  refine M_iald X dX9_isShort_42 (by decide) rfl (hb) ?_
  refine V_iconst (v := 1) X dX9_isShort_43 (by decide) ?_
  refine V_isub X dX9_isShort_44 ?_
  refine M_iast X dX9_isShort_45 (by decide) rfl (hb) ?_
  refine V_aload_n X dX9_isShort_46 rfl rfl ?_
  refine M_geta X dX9_isShort_47 fk_X9_75 (by decide) rfl ?_
  refine V_iload_n X dX9_isShort_50 rfl ?_
  refine M_iald X dX9_isShort_51 (by decide) rfl (hb) ?_
  refine V_if_gt X dX9_isShort_52 60 (by decide) (fun c_52 => ?_) (fun c_52 => ?_)
  · refine V_vret X dX9_isShort_60 ?_ ?_ ?_
    · dsimp only [rmm]; omega
    · dsimp only [rmm]; omega
    refine ⟨rfl, ?_⟩
    simp only [shortS, lateS, if_pos c_6, if_pos c_52]
  refine V_aload_n X dX9_isShort_55 rfl rfl ?_
  refine V_iload_n X dX9_isShort_56 rfl ?_
  apply V_callV1 X dX9_isShort_57 mk_X9_227 iv_X9_removeSub (c_removeSub l hb (ct_of (by rw [pa_n _ _ (by decide), pa_n _ _ (by decide), pa_n _ _ (by decide), pa_n _ _ (by decide)]) h32) (ct_of (by rw [pa_n _ _ (by decide), pa_n _ _ (by decide), pa_n _ _ (by decide), pa_n _ _ (by decide)]) h48))
  · first | assumption | exact hu_s | exact (hu_n (by first | exact kd_nk (by decide) | exact kd_ni (by omega) | exact kd_ng (by omega) | assumption | exact Ne.symm (by assumption))).trans (by first | assumption | exact hu_s | exact (hu_n (by first | exact kd_nk (by decide) | exact kd_ni (by omega) | exact kd_ng (by omega) | assumption | exact Ne.symm (by assumption))).trans (by first | assumption | exact hu_s | exact (hu_n (by first | exact kd_nk (by decide) | exact kd_ni (by omega) | exact kd_ng (by omega) | assumption | exact Ne.symm (by assumption))).trans (by first | assumption | exact hu_s)))
  · exact rfl
  · exact Nat.le_of_ble_eq_true rfl
  · exact ⟨Nat.le_of_ble_eq_true rfl, Nat.le_of_ble_eq_true rfl⟩
  · exact ⟨by dsimp only [rmm]; omega, by dsimp only [rmm]; omega⟩
  rintro r I1 ⟨rfl, rfl⟩
  refine V_vret X dX9_isShort_60 ?_ ?_ ?_
  · dsimp only [rmm]; omega
  · dsimp only [rmm]; omega
  refine ⟨rfl, ?_⟩
  simp only [shortS, lateS, if_pos c_6, if_neg c_52]
def shS (S : St) (i n : Nat) : St := (fun k j => if (k = 46 ∨ k = 47) ∧ 8 * i ≤ j ∧ j < 8 * i + n then S.1 k (j + 1) else S.1 k j, fun k j => if k = 45 ∧ 8 * i ≤ j ∧ j < 8 * i + n then S.2 k (j + 1) else S.2 k j)
def shiftS (S : St) (i : Nat) : St := let S1 := pa S 44 i (S.1 44 i - 1); shS S1 i (nn (S1.1 44 i))
theorem shS_0 (S : St) (i : Nat) : shS S i 0 = S := by
  refine Prod.ext ?_ ?_ <;> (funext k j; exact if_neg (by omega))
theorem shS_1 {S : St} {i n k j : Nat} (h : 8 * i + n ≤ j) : (shS S i n).1 k j = S.1 k j := if_neg (by omega)
theorem shS_2 {S : St} {i n k j : Nat} (h : 8 * i + n ≤ j) : (shS S i n).2 k j = S.2 k j := if_neg (by omega)
theorem shS_k {S : St} {i n k j : Nat} (h : k ≠ 46 ∧ k ≠ 47) : (shS S i n).1 k j = S.1 k j := if_neg (by omega)
theorem shS_s (S : St) (i x : Nat) : pa (pa (pb (shS S i x) 45 (8 * i + x) (S.2 45 (8 * i + x + 1))) 46 (8 * i + x) (S.1 46 (8 * i + x + 1))) 47 (8 * i + x) (S.1 47 (8 * i + x + 1)) = shS S i (x + 1) := by
  refine Prod.ext ?_ ?_
  · funext k j
    show (if k = 47 ∧ j = 8 * i + x then _ else if k = 46 ∧ j = 8 * i + x then _ else if (k = 46 ∨ k = 47) ∧ 8 * i ≤ j ∧ j < 8 * i + x then S.1 k (j + 1) else S.1 k j) = if (k = 46 ∨ k = 47) ∧ 8 * i ≤ j ∧ j < 8 * i + (x + 1) then S.1 k (j + 1) else S.1 k j
    by_cases hj : j = 8 * i + x
    · subst hj
      by_cases h7 : k = 47
      · subst h7
        rw [if_pos ⟨rfl, rfl⟩, if_pos (by omega)]
      · rw [if_neg (fun q => h7 q.1)]
        by_cases h6 : k = 46
        · subst h6
          rw [if_pos ⟨rfl, rfl⟩, if_pos (by omega)]
        · rw [if_neg (fun q => h6 q.1), if_neg (by omega), if_neg (by omega)]
    · rw [if_neg (fun q => hj q.2), if_neg (fun q => hj q.2)]
      by_cases hc : (k = 46 ∨ k = 47) ∧ 8 * i ≤ j ∧ j < 8 * i + x
      · rw [if_pos hc, if_pos ⟨hc.1, hc.2.1, by omega⟩]
      · rw [if_neg hc, if_neg (fun q => hc ⟨q.1, q.2.1, by omega⟩)]
  · funext k j
    show (if k = 45 ∧ j = 8 * i + x then _ else if k = 45 ∧ 8 * i ≤ j ∧ j < 8 * i + x then S.2 k (j + 1) else S.2 k j) = if k = 45 ∧ 8 * i ≤ j ∧ j < 8 * i + (x + 1) then S.2 k (j + 1) else S.2 k j
    by_cases hj : j = 8 * i + x
    · subst hj
      by_cases h7 : k = 45
      · subst h7
        rw [if_pos ⟨rfl, rfl⟩, if_pos (by omega)]
      · rw [if_neg (fun q => h7 q.1), if_neg (fun q => h7 q.1), if_neg (fun q => h7 q.1)]
    · rw [if_neg (fun q => hj q.2)]
      by_cases hc : k = 45 ∧ 8 * i ≤ j ∧ j < 8 * i + x
      · rw [if_pos hc, if_pos ⟨hc.1, hc.2.1, by omega⟩]
      · rw [if_neg hc, if_neg (fun q => hc ⟨q.1, q.2.1, by omega⟩)]
set_option maxRecDepth 100000 in
set_option maxHeartbeats 4000000 in
theorem shift_loop {l : Launch} {Z : Zt} {S T : St} {J : aH} {i q : Nat} (hi : i < 60) (hq : q ≤ 7) (e44 : T.1 44 i = nI q) (eT : shiftS S i = shS T i q) (X : Fx Z l (rmm 0 0 0 0) cX9_shift 3 RX9 none (fun r I' => r = none ∧ I' = ovl (shiftS S i) J)) : ∀ (m x : Nat), q - x < m → x ≤ q → V Z 3 (ovl (shS T i x) J) [some (.ref mO), some (.int (nI i)), some (.int (nI (8 * i + x)))] [] 0 0 15
  | 0, _, _, _ => absurd (by assumption) (Nat.not_lt_zero _)
  | m + 1, x, hm, hx => by
    refine V_iload_n X dX9_shift_15 rfl ?_
    refine V_bipush (v := 8) X dX9_shift_16 (by decide) ?_
    refine V_iload_n X dX9_shift_18 rfl ?_
    refine V_imul X dX9_shift_19 ?_
    rw [show (8 : Int32) = nI 8 from rfl, pk_mul]
    refine V_aload_n X dX9_shift_20 rfl rfl ?_
    refine M_geta X dX9_shift_21 fk_X9_123 (by decide) rfl ?_
    refine V_iload_n X dX9_shift_24 rfl ?_
    refine M_ialdN X dX9_shift_25 (by decide) rfl (by omega) (by decide) ?_
    rw [shS_k (by decide), e44]
    refine V_iadd X dX9_shift_26 ?_
    rw [nI_add]
    refine V_icmp_ge X dX9_shift_27 78 (by decide) (fun c_27 => ?_) (fun c_27 => ?_)
    · have hx2 : x = q := by
        rcases Nat.lt_or_ge x q with z | z
        · exact absurd c_27 (nI_ge (by omega) (by omega))
        · omega
      refine V_vret X dX9_shift_78 ?_ ?_ ?_
      · dsimp only [rmm]; omega
      · dsimp only [rmm]; omega
      refine ⟨rfl, ?_⟩
      rw [eT, hx2]
    have hlt : x < q := by
      rcases Nat.lt_or_ge x q with z | z
      · exact z
      · exact absurd (nI_le (a := 8 * i + q) (b := 8 * i + x) (by omega) (by omega)) c_27
    refine V_aload_n X dX9_shift_30 rfl rfl ?_
    refine M_geta X dX9_shift_31 fk_X9_126 (by decide) rfl ?_
    refine V_iload_n X dX9_shift_34 rfl ?_
    refine V_aload_n X dX9_shift_35 rfl rfl ?_
    refine M_geta X dX9_shift_36 fk_X9_126 (by decide) rfl ?_
    refine V_iload_n X dX9_shift_39 rfl ?_
    refine V_iconst (v := 1) X dX9_shift_40 (by decide) ?_
    refine V_iadd X dX9_shift_41 ?_
    rw [nI_1]
    refine M_laldN X dX9_shift_42 (by decide) rfl (by omega) (by decide) ?_
    rw [shS_2 (by omega)]
    refine M_lastN X dX9_shift_43 (by decide) rfl (by omega) (by decide) ?_
    refine V_aload_n X dX9_shift_44 rfl rfl ?_
    refine M_geta X dX9_shift_45 fk_X9_129 (by decide) rfl ?_
    refine V_iload_n X dX9_shift_48 rfl ?_
    refine V_aload_n X dX9_shift_49 rfl rfl ?_
    refine M_geta X dX9_shift_50 fk_X9_129 (by decide) rfl ?_
    refine V_iload_n X dX9_shift_53 rfl ?_
    refine V_iconst (v := 1) X dX9_shift_54 (by decide) ?_
    refine V_iadd X dX9_shift_55 ?_
    rw [nI_1]
    refine M_ialdN X dX9_shift_56 (by decide) rfl (by omega) (by decide) ?_
    rw [pb_1, shS_1 (by omega)]
    refine M_iastN X dX9_shift_57 (by decide) rfl (by omega) (by decide) ?_
    refine V_aload_n X dX9_shift_58 rfl rfl ?_
    refine M_geta X dX9_shift_59 fk_X9_132 (by decide) rfl ?_
    refine V_iload_n X dX9_shift_62 rfl ?_
    refine V_aload_n X dX9_shift_63 rfl rfl ?_
    refine M_geta X dX9_shift_64 fk_X9_132 (by decide) rfl ?_
    refine V_iload_n X dX9_shift_67 rfl ?_
    refine V_iconst (v := 1) X dX9_shift_68 (by decide) ?_
    refine V_iadd X dX9_shift_69 ?_
    rw [nI_1]
    refine M_ialdN X dX9_shift_70 (by decide) rfl (by omega) (by decide) ?_
    rw [pa_n _ _ (by decide), pb_1, shS_1 (by omega)]
    refine M_iastN X dX9_shift_71 (by decide) rfl (by omega) (by decide) ?_
    rw [shS_s]
    refine V_iinc X dX9_shift_72 rfl (by decide) rfl (nI (8 * i + (x + 1))) (nI_1 _) ?_
    refine V_goto X dX9_shift_75 15 (by decide) ?_
    exact shift_loop hi hq e44 eT X m (x + 1) (by omega) (by omega)
set_option maxRecDepth 100000 in
set_option maxHeartbeats 4000000 in
theorem c_shift (l : Launch) {S : St} {J : aH} {i q : Nat} (hi : i < 60) (hq : q ≤ 7) (e44 : S.1 44 i = nI (q + 1)) : AM l yX9_shift cX9_shift 3 none (rmm 0 0 0 0) [.ref mO, .int (nI i)] (ovl S J) (fun r I' => r = none ∧ I' = ovl (shiftS S i) J) := by
  refine AM_of RX9 (by decide) rfl [some (.ref mO), some (.int (nI i)), none] rfl (Nat.le_of_ble_eq_true rfl) (fun Z X hNm => ?_)
  refine V_aload_n X dX9_shift_0 rfl rfl ?_
  refine M_geta X dX9_shift_1 fk_X9_123 (by decide) rfl ?_
  refine V_iload_n X dX9_shift_4 rfl ?_
  refine V_dup2 X dX9_shift_5 rfl rfl ?_
  refine M_ialdN X dX9_shift_6 (by decide) rfl (by omega) (by decide) ?_
  refine V_iconst (v := 1) X dX9_shift_7 (by decide) ?_
  refine V_isub X dX9_shift_8 ?_
  refine M_iastN X dX9_shift_9 (by decide) rfl (by omega) (by decide) ?_
  refine V_bipush (v := 8) X dX9_shift_10 (by decide) ?_
  refine V_iload_n X dX9_shift_12 rfl ?_
  refine V_imul X dX9_shift_13 ?_
  rw [show (8 : Int32) = nI 8 from rfl, pk_mul]
  refine V_istore_n X dX9_shift_14 (by decide) rfl ?_
  have e4 : (pa S 44 i (S.1 44 i - 1)).1 44 i = nI q := by rw [pa_s, e44, nI_pred]
  have e := shift_loop (q := q) hi hq e4 (by rw [shiftS, e4, show nn (nI q) = q from nI_clamp (by omega)]) X (q + 1) 0 (by omega) (Nat.zero_le _)
  rw [shS_0] at e
  exact e
