/-! the invariant goes on through sampling, making, shutting -/
theorem sampleS_k {S : St} {i k j : Nat} (h : k ≠ 42 ∧ k ≠ 44 ∧ k ≠ 46 ∧ k ≠ 47) : (sampleS S i).1 k j = S.1 k j := by
  unfold sampleS
  split
  · rfl
  · have a : (smA S i).1 k j = S.1 k j := pa_n S 1 h.1
    have b : (smB (smA S i) i).1 k j = (smA S i).1 k j := by
      unfold smB
      split
      · split
        · exact pa_n _ _ h.2.1
        · rw [pa_n _ _ h.2.2.2]
          exact shiftS_k h.2
      · rfl
    unfold smF
    dsimp only
    rw [pa_n _ _ h.2.2.2, pa_n _ _ h.2.2.1, pb_1, pa_n _ _ h.2.1, b, a]
theorem sm_inc {x : Int32} {b : Nat} (h : sm x b) (hb : b + 1 < 2 ^ 31) : sm (x + 1) (b + 1) ∧ nn (x + 1) = nn x + 1 := by
  have h2 := h.2
  have e : x + 1 = nI (nn x + 1) := by
    have e1 := nI_1 (nn x)
    rw [← h.1] at e1
    exact e1
  exact ⟨sm_of e (by omega) hb, by rw [e]; exact nnI (by omega)⟩
theorem smB_q {S : St} {i : Nat} (hq : sm (S.1 44 i) 8) (hz : sm (S.1 38 i) 8) (hqz : nn (S.1 44 i) ≤ nn (S.1 38 i)) (hz1 : 1 ≤ nn (S.1 38 i)) : sm ((smB S i).1 44 i) 7 ∧ nn ((smB S i).1 44 i) + 1 ≤ nn (S.1 38 i) := by
  have h2 := hz.2
  unfold smB
  split
  · rename_i he
    have hn : nn (S.1 44 i) = nn (S.1 38 i) := by rw [he]
    have hd := sm_dec hq (by omega) (by decide)
    have hs : sm (S.1 44 i - 1) 7 := ⟨hd.2.1.1, by rw [hd.2.2]; omega⟩
    split
    · rw [pa_s]
      exact ⟨hs, by rw [hd.2.2]; omega⟩
    · rw [pa_n _ _ (by decide), shiftS_q]
      exact ⟨hs, by rw [hd.2.2]; omega⟩
  · rename_i he
    have hn : nn (S.1 44 i) ≠ nn (S.1 38 i) := fun q => he (by rw [hq.1, hz.1, q])
    exact ⟨⟨hq.1, by omega⟩, by omega⟩
theorem smB_n {S : St} {i j : Nat} (h : j ≠ i) : (smB S i).1 44 j = S.1 44 j := by
  unfold smB
  split
  · split
    · exact pa_i _ _ h
    · rw [pa_n _ _ (by decide)]
      exact shiftS_n h
  · rfl
theorem sampleS_q {S : St} {i : Nat} (hQ : IvQ S i) (hz1 : 1 ≤ nn (S.1 38 i)) (j : Nat) (hj : sm (S.1 44 j) 8 ∧ nn (S.1 44 j) ≤ nn (S.1 38 j)) : sm ((sampleS S i).1 44 j) 8 ∧ nn ((sampleS S i).1 44 j) ≤ nn (S.1 38 j) := by
  unfold sampleS
  split
  · exact hj
  · have a44 : ∀ j, (smA S i).1 44 j = S.1 44 j := fun j => by simp [smA, pa_1, pb_1]
    have a38 : ∀ j, (smA S i).1 38 j = S.1 38 j := fun j => by simp [smA, pa_1, pb_1]
    have hB := smB_q (S := smA S i) (i := i) (by rw [a44]; exact hQ.1) (by rw [a38]; exact hQ.2.1) (by rw [a44, a38]; exact hQ.2.2.1) (by rw [a38]; exact hz1)
    rw [a38] at hB
    unfold smF
    dsimp only
    rw [pa_n _ _ (by decide), pa_n _ _ (by decide), pb_1]
    by_cases e : j = i
    · subst e
      rw [pa_s]
      have := sm_inc hB.1 (by decide)
      exact ⟨this.1, by rw [this.2]; exact hB.2⟩
    · rw [pa_i _ _ e, smB_n e, a44]
      exact hj
theorem Iv.sample {c : Nat} {S : St} {i : Nat} (h : Iv c S) (hi : i < nn (S.1 32 0)) (hi2 : i < 60) : Iv c (sampleS S i) := by
  obtain ⟨⟨c1, c2, c3, c4⟩, h2, h3, h4, h5, h6, h7⟩ := h
  have hk : ∀ {k j}, (k ≠ 42 ∧ k ≠ 44 ∧ k ≠ 46 ∧ k ≠ 47) → (sampleS S i).1 k j = S.1 k j := fun h => sampleS_k h
  have et : tot (sampleS S i) = tot S := sumN_cong fun j _ => by rw [hk (by decide), hk (by decide)]
  have em : ml (sampleS S i) = ml S := sumN_cong fun j _ => by rw [hk (by decide)]
  refine ⟨⟨ct_of (hk (by decide)) c1, ct_of (hk (by decide)) c2, ct_of (hk (by decide)) c3, ct_of (hk (by decide)) c4⟩, fun j hj => ?_, fun b hb => ?_, fun s hs => ?_, ?_, fun b hb => ?_, fun j hj => ?_⟩
  · have := sampleS_q (h2 i hi2) (h7 i hi).2.2 j ⟨(h2 j hj).1, (h2 j hj).2.2.1⟩
    unfold IvQ
    rw [hk (k := 38) (by decide), hk (k := 35) (by decide), hk (k := 34) (by decide)]
    exact ⟨this.1, (h2 j hj).2.1, this.2, (h2 j hj).2.2.2⟩
  · rw [hk (by decide), hk (by decide)]; exact h3 b hb
  · rw [hk (by decide), hk (by decide)]; exact h4 s hs
  · rw [et, em, hk (by decide)]; exact h5
  · rw [hk (by decide)] at hb ⊢; exact h6 b hb
  · rw [hk (by decide)] at hj; rw [hk (by decide), hk (by decide)]; exact h7 j hj
/-- shutting: one session's requests go -/
theorem Iv.req0 {c : Nat} {S : St} {s : Nat} (hs : s < 12) (h : Iv c S) : Iv c (pa S 12 s 0) := by
  obtain ⟨⟨c1, c2, c3, c4⟩, h2, h3, h4, h5, h6, h7⟩ := h
  have hk : ∀ {k j}, k ≠ 12 → (pa S 12 s 0).1 k j = S.1 k j := fun h => pa_n _ _ h
  have z : nn (0 : Int32) = 0 := rfl
  have et : tot (pa S 12 s 0) ≤ tot S := by
    have := sumN_upd (f := fun j => nn (S.1 12 j) + nn (S.1 13 j)) (g := fun j => nn ((pa S 12 s 0).1 12 j) + nn ((pa S 12 s 0).1 13 j)) (n := 12) hs (fun j hj => by rw [pa_i _ _ hj, hk (by decide)])
    simp only [pa_s, hk (show (13 : Nat) ≠ 12 by decide), z] at this
    unfold tot
    simp only [hk (show (13 : Nat) ≠ 12 by decide)]
    omega
  have em : ml (pa S 12 s 0) = ml S := sumN_cong fun j _ => by rw [hk (by decide)]
  refine ⟨⟨ct_of (hk (by decide)) c1, ct_of (hk (by decide)) c2, ct_of (hk (by decide)) c3, ct_of (hk (by decide)) c4⟩, fun j hj => ?_, fun b hb => ?_, fun t ht => ?_, ?_, fun b hb => ?_, fun j hj => ?_⟩
  · unfold IvQ
    rw [hk (by decide), hk (by decide), hk (by decide), hk (by decide)]
    exact h2 j hj
  · rw [hk (by decide), hk (by decide)]; exact h3 b hb
  · rw [hk (k := 13) (by decide)]
    refine ⟨?_, (h4 t ht).2⟩
    by_cases e : t = s
    · subst e
      rw [pa_s]
      exact sm_of (j := 0) rfl (by omega) (by decide)
    · rw [pa_i _ _ e]
      exact (h4 t ht).1
  · rw [em, hk (by decide)]; exact ⟨Nat.le_trans et h5.1, h5.2⟩
  · rw [hk (by decide)] at hb ⊢; exact h6 b hb
  · rw [hk (by decide)] at hj; rw [hk (by decide), hk (by decide)]; exact h7 j hj
theorem Iv.shut {c : Nat} {S : St} {s : Nat} (hs : s < 12) (h : Iv c S) : Iv c (shutS S (nI s)).1 := by
  have h1 : Iv c (pa (pa S 11 (nn (nI s)) 2) 12 (nn (nI s)) 0) := by
    rw [nnI (by omega)]
    exact Iv.req0 hs (h.put rfl)
  unfold shutS
  dsimp only
  exact h1.cong fun k hk i => lpq_k (ivF_rem hk) _ _ i
theorem shut_k {S : St} {s : Int32} {k i : Nat} (h : (k ≠ 16 ∧ k ≠ 33 ∧ k ≠ 54) ∧ k ≠ 11 ∧ k ≠ 12) : (shutS S s).1.1 k i = S.1 k i := by
  unfold shutS
  dsimp only
  rw [lpq_k h.1]
  show (pa (pa S 11 _ _) 12 _ _).1 k i = _
  rw [pa_n _ _ h.2.2, pa_n _ _ h.2.1]
/-- making -/
theorem mkT_k {F : St} {b M a k j : Nat} (h : k ≠ 31 ∧ k ≠ 14 ∧ k ≠ 13 ∧ k ≠ 12 ∧ k ≠ 27 ∧ k ≠ 25 ∧ k ≠ 26 ∧ k ≠ 28) : (mkT F b M a).1 k j = F.1 k j := by
  unfold mkT mailN
  dsimp only
  rw [pa_n _ _ h.2.2.2.2.2.2.2, pa_n _ _ h.2.2.2.2.2.2.1, pa_n _ _ h.2.2.2.2.2.1, pa_n _ _ h.2.2.2.2.1, pa_n _ _ h.2.2.2.1, pa_n _ _ h.2.2.1, pa_n _ _ h.2.1, pa_n _ _ h.1]
theorem mkT_13 {F : St} {b M a j : Nat} : (mkT F b M a).1 13 j = if j = a then F.1 13 a + 1 else F.1 13 j := by
  unfold mkT mailN
  simp only [pa_1]
  by_cases e : j = a
  · subst e; simp
  · simp [e]
theorem mkT_12 {F : St} {b M a j : Nat} : (mkT F b M a).1 12 j = if j = a then F.1 12 a - 1 else F.1 12 j := by
  unfold mkT mailN
  simp only [pa_1]
  by_cases e : j = a
  · subst e; simp
  · simp [e]
/-- F is S but for a message's fields and shorter queues -/
def mkOk (S F : St) (M : Nat) : Prop := (∀ k, k ≠ 48 ∧ ivF k = true ∧ k ≠ 44 → ∀ i, F.1 k i = S.1 k i) ∧ F.1 48 0 = nI (M + 1) ∧ ∀ j, j < 60 → sm (F.1 44 j) 8 ∧ nn (F.1 44 j) ≤ nn (S.1 44 j)
theorem mkT_iv {c : Nat} {S F : St} {b M a : Nat} (hI : Iv c S) (ha : a < 12) (e48 : S.1 48 0 = nI M) (hM : M < 2 ^ 20) (h : mkOk S F M) (hr : 1 ≤ nn (S.1 12 a)) : Iv c (mkT F b M a) := by
  obtain ⟨⟨c1, c2, c3, c4⟩, h2, h3, h4, h5, h6, h7⟩ := hI
  obtain ⟨hk0, hk48, hq⟩ := h
  have hk : ∀ {k i}, (k ≠ 48 ∧ ivF k = true ∧ k ≠ 44) ∧ (k ≠ 31 ∧ k ≠ 14 ∧ k ≠ 13 ∧ k ≠ 12 ∧ k ≠ 27 ∧ k ≠ 25 ∧ k ≠ 26 ∧ k ≠ 28) → (mkT F b M a).1 k i = S.1 k i := fun h => (mkT_k h.2).trans (hk0 _ h.1 _)
  have e12 : ∀ j, F.1 12 j = S.1 12 j := fun j => hk0 12 (by decide) j
  have e13 : ∀ j, F.1 13 j = S.1 13 j := fun j => hk0 13 (by decide) j
  have hi := sm_inc (h4 a ha).2 (by decide)
  have hd := sm_dec (h4 a ha).1 hr (by decide)
  have e48b : (mkT F b M a).1 48 0 = nI (M + 1) := (mkT_k (by decide)).trans hk48
  have n12 : ∀ j, nn ((mkT F b M a).1 12 j) = if j = a then nn (S.1 12 a) - 1 else nn (S.1 12 j) := fun j => by
    rw [mkT_12, e12, e12]
    split
    · exact hd.2.2
    · rfl
  have n13 : ∀ j, nn ((mkT F b M a).1 13 j) = if j = a then nn (S.1 13 a) + 1 else nn (S.1 13 j) := fun j => by
    rw [mkT_13, e13, e13]
    split
    · exact hi.2
    · rfl
  have et : tot (mkT F b M a) = tot S := sumN_cong fun j _ => by
    rw [n12, n13]
    by_cases e : j = a
    · subst e
      rw [if_pos rfl, if_pos rfl]
      omega
    · rw [if_neg e, if_neg e]
  have em : ml (mkT F b M a) = ml S + 1 := by
    have := sumN_upd (f := fun j => nn (S.1 13 j)) (g := fun j => nn ((mkT F b M a).1 13 j)) (n := 12) ha (fun j hj => by rw [n13, if_neg hj])
    simp only [n13, if_true] at this
    unfold ml
    simp only [n13]
    omega
  have hmt : ml (mkT F b M a) ≤ tot (mkT F b M a) := by
    unfold ml tot
    generalize mkT F b M a = G
    have : ∀ n, sumN (fun s => nn (G.1 13 s)) n ≤ sumN (fun s => nn (G.1 12 s) + nn (G.1 13 s)) n := by
      intro n
      induction n with
      | zero => exact Nat.le_refl _
      | succ n ih => rw [sumN, sumN]; omega
    exact this 12
  have hml : M ≤ ml S := by have := h5.2.2; rw [e48, nnI (by omega)] at this; exact this
  refine ⟨⟨ct_of (hk (by decide)) c1, ct_of (hk (by decide)) c2, ct_of (hk (by decide)) c3, ⟨M + 1, by have := h5.1; have := h5.2.1; omega, e48b⟩⟩, fun j hj => ?_, fun b hb => ?_, fun s hs => ?_, ⟨by rw [et]; exact h5.1, h5.2.1, by rw [em, e48b, nnI (by omega)]; omega⟩, fun b hb => ?_, fun j hj => ?_⟩
  · unfold IvQ
    rw [hk (k := 38) (by decide), hk (k := 35) (by decide), hk (k := 34) (by decide), mkT_k (k := 44) (by decide)]
    exact ⟨(hq j hj).1, (h2 j hj).2.1, Nat.le_trans (hq j hj).2 (h2 j hj).2.2.1, (h2 j hj).2.2.2⟩
  · rw [hk (by decide), hk (by decide)]; exact h3 b hb
  · constructor
    · rw [mkT_12, e12, e12]
      split
      · exact hd.2.1
      · exact (h4 s hs).1
    · have hle : nn ((mkT F b M a).1 13 s) ≤ ml (mkT F b M a) := sumN_le (f := fun s => nn ((mkT F b M a).1 13 s)) hs
      have h0 : (mkT F b M a).1 13 s = nI (nn ((mkT F b M a).1 13 s)) := by
        rw [mkT_13, e13, e13]
        split
        · exact hi.1.1
        · exact (h4 s hs).2.1
      exact ⟨h0, by have := h5.1; have := h5.2.1; omega⟩
  · rw [hk (by decide)] at hb ⊢; exact h6 b hb
  · rw [hk (by decide)] at hj; rw [hk (by decide), hk (by decide)]; exact h7 j hj
theorem ivF_mk {k : Nat} (h : k ≠ 48 ∧ ivF k = true ∧ k ≠ 44) : mkF k ∧ k ≠ 54 ∧ k ≠ 51 ∧ k ≠ 52 := by
  refine ⟨⟨⟨h.1, ?_, ?_, ?_⟩, ?_, h.2.2, ?_, ?_, ?_, ?_, ?_⟩, ?_, ?_, ?_⟩ <;> (rintro rfl; exact absurd h.2.1 (by decide))
theorem mkOk_R {c : Nat} {S : St} {b M N : Nat} (hI : Iv c S) : mkOk S (mkE (mkK (mkQ S b M N).1 b) b M (mkQ S b M N).2) M := by
  refine ⟨fun k hk i => ?_, ?_, fun j hj => ?_⟩
  · have h := ivF_mk hk
    rw [mkE_k ⟨h.2.1, h.2.2.1, h.2.2.2⟩, mkK_k h.2.1, mkQ_k h.1]
  · rw [mkE_k (by decide), mkK_k (by decide), mkQ_48]
  · rw [mkE_k (by decide), mkK_k (by decide)]
    have hs : ∀ j, j < 60 → sm ((mkB (mkA S b M) b).1 44 j) 8 := fun j hj => by rw [mkB_k (by decide), mkA_k (by decide)]; exact (hI.2.1 j hj).1
    have := lpm_q (b := b) (B := nn (bdS (mkB (mkA S b M) b) b)) (M := M) N (mkB (mkA S b M) b, 0) hs j hj
    refine ⟨this.1, Nat.le_trans this.2 ?_⟩
    show nn ((mkB (mkA S b M) b).1 44 j) ≤ _
    rw [mkB_k (by decide), mkA_k (by decide)]
    exact Nat.le_refl _
theorem mkOk_N {c : Nat} {S : St} {b M : Nat} (hI : Iv c S) : mkOk S (pa (pa (mkA S b M) 51 M 0) 52 M 0) M := by
  refine ⟨fun k hk i => ?_, ?_, fun j hj => ?_⟩
  · have h := ivF_mk hk
    rw [pa_n _ _ h.2.2.2, pa_n _ _ h.2.2.1, mkA_k h.1.1]
  · simp [mkA, pa_1]
  · rw [pa_n _ _ (by decide), pa_n _ _ (by decide), mkA_k (by decide)]
    exact ⟨(hI.2.1 j hj).1, Nat.le_refl _⟩
theorem Iv.make {c : Nat} {S : St} {b : Nat} (h : Iv c S) (hb : b < 20) (hr : 1 ≤ nn (S.1 12 (nn (S.1 17 b)))) : Iv c (makeS S b) := by
  obtain ⟨M, hM, e48⟩ := h.1.2.2.2
  have hs := (h.2.2.1 b hb).1.2
  have eM : nn (S.1 48 0) = M := by rw [e48]; exact nnI (by omega)
  unfold makeS
  split
  · rw [eM]
    exact mkT_iv h (by omega) e48 (by omega) (mkOk_R h) hr
  · rw [eM]
    exact mkT_iv h (by omega) e48 (by omega) (mkOk_N h) hr
abbrev mayM (S : St) (b : Nat) : Prop := ¬ S.1 12 (nn (S.1 17 b)) ≤ 0 ∧ ¬ 900 ≤ S.1 48 0
def cycW (b : Nat) : Nat → St → St
  | 0, S => S
  | f + 1, S => if mayM S b then (if (makeS S b).1 31 b = 0 then makeS S b else if (makeS S b).1 12 (nn ((makeS S b).1 17 b)) ≤ 0 then makeS S b else cycW b f (makeS S b)) else shortS S (nI b)
def cycN (S : St) (b : Nat) : St := pa S 25 b (S.1 25 b - (if S.1 27 b = 0 then 0 else 1))
def cycS (S : St) (b : Nat) : St := if rdy S (nI b) then cycW b 5 S else (let S1 := cycN S b; if S1.1 27 b = 0 then (if mayM S1 b then makeS S1 b else shortS S1 (nI b)) else if S1.1 25 b ≤ 0 then (if mayM S1 b then makeS S1 b else shortS S1 (nI b)) else S1)
theorem mayM_r {c : Nat} {S : St} {b : Nat} (h : Iv c S) (hb : b < 20) (hm : mayM S b) : 1 ≤ nn (S.1 12 (nn (S.1 17 b))) := by
  have hs := (h.2.2.1 b hb).1.2
  exact sm_pos (h.2.2.2.1 _ (by omega)).1 hm.1 (by decide)
theorem ivCycW {c b : Nat} (hb : b < 20) : ∀ (f : Nat) (S : St), Iv c S → Iv c (cycW b f S)
  | 0, _, h => h
  | f + 1, S, h => by
    unfold cycW
    split
    · rename_i hm
      have h1 := h.make hb (mayM_r h hb hm)
      split
      · exact h1
      · split
        · exact h1
        · exact ivCycW hb f _ h1
    · exact h.short
theorem Iv.cyc {c b : Nat} {S : St} (hb : b < 20) (h : Iv c S) : Iv c (cycS S b) := by
  unfold cycS
  split
  · exact ivCycW hb 5 S h
  · have h1 : Iv c (cycN S b) := h.put rfl
    dsimp only
    split
    · split
      · rename_i hm
        exact h1.make hb (mayM_r h1 hb hm)
      · exact h1.short
    · split
      · split
        · rename_i hm
          exact h1.make hb (mayM_r h1 hb hm)
        · exact h1.short
      · exact h1
set_option maxRecDepth 100000 in
set_option maxHeartbeats 4000000 in
theorem c_mayMake (l : Launch) {S : St} {J : aH} {b : Nat} (hb : b < 20) (hs : sm (S.1 17 b) 11) : AM l yX9_mayMake cX9_mayMake 2 (some .boolean) (rmm 0 0 0 0) [.ref mO, .int (nI b)] (ovl S J) (fun r I' => r = some (.int (if mayM S b then 1 else 0)) ∧ I' = ovl S J) := by
  have hs2 := hs.2
  refine AM_of RX9 (by decide) rfl [some (.ref mO), some (.int (nI b))] rfl (Nat.le_of_ble_eq_true rfl) (fun Z X hNm => ?_)
  refine V_aload_n X dX9_mayMake_0 rfl rfl ?_
  refine M_geta X dX9_mayMake_1 fk_X9_35 (by decide) rfl ?_
  refine V_aload_n X dX9_mayMake_4 rfl rfl ?_
  refine M_geta X dX9_mayMake_5 fk_X9_48 (by decide) rfl ?_
  refine V_iload_n X dX9_mayMake_8 rfl ?_
  refine M_ialdN X dX9_mayMake_9 (by decide) rfl (by omega) (by decide) ?_
  refine M_iald X dX9_mayMake_10 (by decide) rfl (by rw [hs.1]; exact vp_in_nI2 (by omega) (by omega)) ?_
  refine V_if_le X dX9_mayMake_11 28 (by decide) (fun c_11 => ?_) (fun c_11 => ?_)
  · have hz : ¬ mayM S b := fun q => q.1 c_11
    refine V_iconst (v := 0) X dX9_mayMake_28 (by decide) ?_
    refine V_iret X dX9_mayMake_29 ?_ ?_ ?_ ?_
    · exact rfl
    · dsimp only [rmm]; omega
    · dsimp only [rmm]; omega
    first | exact ⟨by rw [if_neg hz], rfl⟩ | exact ⟨by rw [if_pos hz], rfl⟩
  refine V_aload_n X dX9_mayMake_14 rfl rfl ?_
  refine M_geti X dX9_mayMake_15 fk_X9_205 (by decide) rfl ?_
  refine V_sipush (v := 900) X dX9_mayMake_18 (by decide) ?_
  refine V_icmp_ge X dX9_mayMake_21 28 (by decide) (fun c_21 => ?_) (fun c_21 => ?_)
  · have hz : ¬ mayM S b := fun q => q.2 c_21
    refine V_iconst (v := 0) X dX9_mayMake_28 (by decide) ?_
    refine V_iret X dX9_mayMake_29 ?_ ?_ ?_ ?_
    · exact rfl
    · dsimp only [rmm]; omega
    · dsimp only [rmm]; omega
    first | exact ⟨by rw [if_neg hz], rfl⟩ | exact ⟨by rw [if_pos hz], rfl⟩
  have hz : mayM S b := ⟨c_11, c_21⟩
  refine V_iconst (v := 1) X dX9_mayMake_24 (by decide) ?_
  refine V_goto X dX9_mayMake_25 29 (by decide) ?_
  refine V_iret X dX9_mayMake_29 ?_ ?_ ?_ ?_
  · exact rfl
  · dsimp only [rmm]; omega
  · dsimp only [rmm]; omega
  first | exact ⟨by rw [if_neg hz], rfl⟩ | exact ⟨by rw [if_pos hz], rfl⟩
theorem make_k {S : St} {b k j : Nat} (h : (mkF k ∧ k ≠ 54 ∧ k ≠ 51 ∧ k ≠ 52) ∧ k ≠ 31 ∧ k ≠ 14 ∧ k ≠ 13 ∧ k ≠ 12 ∧ k ≠ 27 ∧ k ≠ 25 ∧ k ≠ 26 ∧ k ≠ 28) : (makeS S b).1 k j = S.1 k j := by
  unfold makeS
  split
  · unfold mkR
    rw [mkT_k h.2, mkE_k ⟨h.1.2.1, h.1.2.2.1, h.1.2.2.2⟩, mkK_k h.1.2.1, mkQ_k h.1.1]
  · unfold mkN
    rw [mkT_k h.2, pa_n _ _ h.1.2.2.2, pa_n _ _ h.1.2.2.1, mkA_k h.1.1.1]
theorem make_12 {c : Nat} {S : St} {b : Nat} (hI : Iv c S) (hb : b < 20) (hr : 1 ≤ nn (S.1 12 (nn (S.1 17 b)))) : nn ((makeS S b).1 12 (nn (S.1 17 b))) = nn (S.1 12 (nn (S.1 17 b))) - 1 := by
  have hs := (hI.2.2.1 b hb).1.2
  have hd := sm_dec (hI.2.2.2.1 _ (show nn (S.1 17 b) < 12 by omega)).1 hr (by decide)
  rw [← hd.2.2]
  unfold makeS
  split
  · unfold mkR
    rw [mkT_12, if_pos rfl, mkE_k (by decide), mkK_k (by decide), mkQ_k (by decide)]
  · unfold mkN
    rw [mkT_12, if_pos rfl, pa_n _ _ (by decide), pa_n _ _ (by decide), mkA_k (by decide)]
set_option maxRecDepth 100000 in
set_option maxHeartbeats 4000000 in
theorem cyc_loop {l : Launch} {Z : Zt} {S : St} {J : aH} {b c : Nat} (X : Fx Z l (rmm 3 0 0 80) cX9_cycle 3 RX9 none (fun r I' => r = none ∧ I' = ovl (cycS S b) J)) (hb : b < 20) : ∀ (f : Nat) (T : St), Iv c T → (mayM T b → nn (T.1 12 (nn (T.1 17 b))) < f) → 1 ≤ f → cycS S b = cycW b f T → V Z 3 (ovl T J) [some (.ref mO), some (.int (nI b)), some (.int 1)] [] 0 0 10
  | 0, _, _, _, h, _ => absurd h (by decide)
  | f + 1, T, hI, hf, _, e => by
    have hs := (hI.2.2.1 b hb).1
    have hs2 := hs.2
    refine V_iload_n X dX9_cycle_10 rfl ?_
    refine V_if_eq X dX9_cycle_11 65 (by decide) (fun c_11 => ?_) (fun c_11 => ?_)
    · exact absurd c_11 (by decide)
    refine V_aload_n X dX9_cycle_14 rfl rfl ?_
    refine V_iload_n X dX9_cycle_15 rfl ?_
    apply V_callV1 X dX9_cycle_16 mk_X9_233 iv_X9_mayMake (c_mayMake l hb hs)
    · first | assumption | exact hu_s | exact (hu_n (by first | exact kd_nk (by decide) | exact kd_ni (by omega) | exact kd_ng (by omega) | assumption | exact Ne.symm (by assumption))).trans (by first | assumption | exact hu_s | exact (hu_n (by first | exact kd_nk (by decide) | exact kd_ni (by omega) | exact kd_ng (by omega) | assumption | exact Ne.symm (by assumption))).trans (by first | assumption | exact hu_s | exact (hu_n (by first | exact kd_nk (by decide) | exact kd_ni (by omega) | exact kd_ng (by omega) | assumption | exact Ne.symm (by assumption))).trans (by first | assumption | exact hu_s)))
    · exact rfl
    · exact Nat.le_of_ble_eq_true rfl
    · exact ⟨Nat.le_of_ble_eq_true rfl, Nat.le_of_ble_eq_true rfl⟩
    · exact ⟨by dsimp only [rmm]; omega, by dsimp only [rmm]; omega⟩
    rintro r I1 ⟨rfl, rfl⟩
    refine V_if_ne X dX9_cycle_19 28 (by decide) (fun c_19 => ?_) (fun c_19 => ?_)
    · have h_19 := bz_t c_19
      refine V_aload_n X dX9_cycle_28 rfl rfl ?_
      refine V_iload_n X dX9_cycle_29 rfl ?_
      apply V_callV1 X dX9_cycle_30 mk_X9_239 iv_X9_make (c_make l hI hb)
      · first | assumption | exact hu_s | exact (hu_n (by first | exact kd_nk (by decide) | exact kd_ni (by omega) | exact kd_ng (by omega) | assumption | exact Ne.symm (by assumption))).trans (by first | assumption | exact hu_s | exact (hu_n (by first | exact kd_nk (by decide) | exact kd_ni (by omega) | exact kd_ng (by omega) | assumption | exact Ne.symm (by assumption))).trans (by first | assumption | exact hu_s | exact (hu_n (by first | exact kd_nk (by decide) | exact kd_ni (by omega) | exact kd_ng (by omega) | assumption | exact Ne.symm (by assumption))).trans (by first | assumption | exact hu_s)))
      · exact rfl
      · exact Nat.le_of_ble_eq_true rfl
      · exact ⟨Nat.le_of_ble_eq_true rfl, Nat.le_of_ble_eq_true rfl⟩
      · exact ⟨by dsimp only [rmm]; omega, by dsimp only [rmm]; omega⟩
      rintro r I1 ⟨rfl, rfl⟩
      have hI2 := hI.make hb (mayM_r hI hb h_19)
      have ht := (hI2.2.2.1 b hb).1
      have ht2 := ht.2
      rw [cycW, if_pos h_19] at e
      refine V_aload_n X dX9_cycle_33 rfl rfl ?_
      refine M_geta X dX9_cycle_34 fk_X9_87 (by decide) rfl ?_
      refine V_iload_n X dX9_cycle_37 rfl ?_
      refine M_zaldN X dX9_cycle_38 (by decide) rfl (by omega) (by decide) ?_
      refine V_if_eq X dX9_cycle_39 60 (by decide) (fun c_39 => ?_) (fun c_39 => ?_)
      · rw [if_pos c_39] at e
        refine V_iconst (v := 0) X dX9_cycle_60 (by decide) ?_
        refine V_istore_n X dX9_cycle_61 (by decide) rfl ?_
        refine V_goto X dX9_cycle_62 10 (by decide) ?_
        refine V_iload_n X dX9_cycle_10 rfl ?_
        refine V_if_eq X dX9_cycle_11 65 (by decide) (fun c_11 => ?_) (fun c_11 => ?_)
        · refine V_vret X dX9_cycle_65 ?_ ?_ ?_
          · dsimp only [rmm]; omega
          · dsimp only [rmm]; omega
          exact ⟨rfl, by rw [e]⟩
        · exact absurd c_11 (by decide)
      rw [if_neg c_39] at e
      refine V_aload_n X dX9_cycle_42 rfl rfl ?_
      refine M_geta X dX9_cycle_43 fk_X9_35 (by decide) rfl ?_
      refine V_aload_n X dX9_cycle_46 rfl rfl ?_
      refine M_geta X dX9_cycle_47 fk_X9_48 (by decide) rfl ?_
      refine V_iload_n X dX9_cycle_50 rfl ?_
      refine M_ialdN X dX9_cycle_51 (by decide) rfl (by omega) (by decide) ?_
      refine M_iald X dX9_cycle_52 (by decide) rfl (by rw [ht.1]; exact vp_in_nI2 (by omega) (by omega)) ?_
      refine V_if_le X dX9_cycle_53 60 (by decide) (fun c_53 => ?_) (fun c_53 => ?_)
      · rw [if_pos c_53] at e
        refine V_iconst (v := 0) X dX9_cycle_60 (by decide) ?_
        refine V_istore_n X dX9_cycle_61 (by decide) rfl ?_
        refine V_goto X dX9_cycle_62 10 (by decide) ?_
        refine V_iload_n X dX9_cycle_10 rfl ?_
        refine V_if_eq X dX9_cycle_11 65 (by decide) (fun c_11 => ?_) (fun c_11 => ?_)
        · refine V_vret X dX9_cycle_65 ?_ ?_ ?_
          · dsimp only [rmm]; omega
          · dsimp only [rmm]; omega
          exact ⟨rfl, by rw [e]⟩
        · exact absurd c_11 (by decide)
      rw [if_neg c_53] at e
      refine V_iconst (v := 1) X dX9_cycle_56 (by decide) ?_
      refine V_goto X dX9_cycle_57 61 (by decide) ?_
      refine V_istore_n X dX9_cycle_61 (by decide) rfl ?_
      refine V_goto X dX9_cycle_62 10 (by decide) ?_
      have h17 : (makeS T b).1 17 b = T.1 17 b := make_k (by decide)
      have h12 := make_12 hI hb (mayM_r hI hb h_19)
      have hp := mayM_r hI hb h_19
      have hff := hf h_19
      exact cyc_loop X hb f _ hI2 (fun _ => by rw [h17, h12]; omega) (by omega) e
    have h_19 := bz_f c_19
    refine V_aload_n X dX9_cycle_22 rfl rfl ?_
    refine V_iload_n X dX9_cycle_23 rfl ?_
    apply V_callV1 X dX9_cycle_24 mk_X9_236 iv_X9_isShort (c_short l (vp_in_nI2 hb (by omega)) hI.1.2.2.1 (ct_up hI.1.2.2.2 (by decide)))
    · first | assumption | exact hu_s | exact (hu_n (by first | exact kd_nk (by decide) | exact kd_ni (by omega) | exact kd_ng (by omega) | assumption | exact Ne.symm (by assumption))).trans (by first | assumption | exact hu_s | exact (hu_n (by first | exact kd_nk (by decide) | exact kd_ni (by omega) | exact kd_ng (by omega) | assumption | exact Ne.symm (by assumption))).trans (by first | assumption | exact hu_s | exact (hu_n (by first | exact kd_nk (by decide) | exact kd_ni (by omega) | exact kd_ng (by omega) | assumption | exact Ne.symm (by assumption))).trans (by first | assumption | exact hu_s)))
    · exact rfl
    · exact Nat.le_of_ble_eq_true rfl
    · exact ⟨Nat.le_of_ble_eq_true rfl, Nat.le_of_ble_eq_true rfl⟩
    · exact ⟨by dsimp only [rmm]; omega, by dsimp only [rmm]; omega⟩
    rintro r I1 ⟨rfl, rfl⟩
    refine V_vret X dX9_cycle_27 ?_ ?_ ?_
    · dsimp only [rmm]; omega
    · dsimp only [rmm]; omega
    exact ⟨rfl, by rw [e, cycW, if_neg h_19]⟩
set_option maxRecDepth 100000 in
set_option maxHeartbeats 4000000 in
theorem c_cycle (l : Launch) {S : St} {J : aH} {b c : Nat} (hI : Iv c S) (hb : b < 20) : AM l yX9_cycle cX9_cycle 3 none (rmm 3 0 0 80) [.ref mO, .int (nI b)] (ovl S J) (fun r I' => r = none ∧ I' = ovl (cycS S b) J) := by
  have hs := (hI.2.2.1 b hb).1
  have hs2 := hs.2
  have hI1 : Iv c (cycN S b) := hI.put rfl
  have hs1 := (hI1.2.2.1 b hb).1
  refine AM_of RX9 (by decide) rfl [some (.ref mO), some (.int (nI b)), none] rfl (Nat.le_of_ble_eq_true rfl) (fun Z X hNm => ?_)
  refine V_aload_n X dX9_cycle_0 rfl rfl ?_
  refine V_iload_n X dX9_cycle_1 rfl ?_
  apply V_callV1 X dX9_cycle_2 mk_X9_208 iv_X9_isReady (c_ready l hI.1.2.2.1 (vp_in_nI2 hb (by omega)))
  · first | assumption | exact hu_s | exact (hu_n (by first | exact kd_nk (by decide) | exact kd_ni (by omega) | exact kd_ng (by omega) | assumption | exact Ne.symm (by assumption))).trans (by first | assumption | exact hu_s | exact (hu_n (by first | exact kd_nk (by decide) | exact kd_ni (by omega) | exact kd_ng (by omega) | assumption | exact Ne.symm (by assumption))).trans (by first | assumption | exact hu_s | exact (hu_n (by first | exact kd_nk (by decide) | exact kd_ni (by omega) | exact kd_ng (by omega) | assumption | exact Ne.symm (by assumption))).trans (by first | assumption | exact hu_s)))
  · exact rfl
  · exact Nat.le_of_ble_eq_true rfl
  · exact ⟨Nat.le_of_ble_eq_true rfl, Nat.le_of_ble_eq_true rfl⟩
  · exact ⟨by dsimp only [rmm]; omega, by dsimp only [rmm]; omega⟩
  rintro r I1 ⟨rfl, rfl⟩
  refine V_if_eq X dX9_cycle_5 66 (by decide) (fun c_5 => ?_) (fun c_5 => ?_)
  · have h_5 := bz_f c_5
    refine V_aload_n X dX9_cycle_66 rfl rfl ?_
    refine M_geta X dX9_cycle_67 fk_X9_72 (by decide) rfl ?_
    refine V_iload_n X dX9_cycle_70 rfl ?_
    refine V_dup2 X dX9_cycle_71 rfl rfl ?_
    refine M_ialdN X dX9_cycle_72 (by decide) rfl (by omega) (by decide) ?_
    refine V_aload_n X dX9_cycle_73 rfl rfl ?_
    refine M_geta X dX9_cycle_74 fk_X9_78 (by decide) rfl ?_
    refine V_iload_n X dX9_cycle_77 rfl ?_
    refine M_zaldN X dX9_cycle_78 (by decide) rfl (by omega) (by decide) ?_
    refine V_if_eq X dX9_cycle_79 86 (by decide) (fun c_79 => ?_) (fun c_79 => ?_)
    · refine V_iconst (v := 0) X dX9_cycle_86 (by decide) ?_
      refine V_isub X dX9_cycle_87 ?_
      refine M_iastN X dX9_cycle_88 (by decide) rfl (by omega) (by decide) ?_
      rw [show pa S 25 b (S.1 25 b - 0) = cycN S b from by rw [cycN, if_pos c_79]]
      refine V_aload_n X dX9_cycle_89 rfl rfl ?_
      refine M_geta X dX9_cycle_90 fk_X9_78 (by decide) rfl ?_
      refine V_iload_n X dX9_cycle_93 rfl ?_
      refine M_zaldN X dX9_cycle_94 (by decide) rfl (by omega) (by decide) ?_
      refine V_if_eq X dX9_cycle_95 108 (by decide) (fun c_95 => ?_) (fun c_95 => ?_)
      · refine V_aload_n X dX9_cycle_108 rfl rfl ?_
        refine V_iload_n X dX9_cycle_109 rfl ?_
        apply V_callV1 X dX9_cycle_110 mk_X9_233 iv_X9_mayMake (c_mayMake l hb hs1)
        · first | assumption | exact hu_s | exact (hu_n (by first | exact kd_nk (by decide) | exact kd_ni (by omega) | exact kd_ng (by omega) | assumption | exact Ne.symm (by assumption))).trans (by first | assumption | exact hu_s | exact (hu_n (by first | exact kd_nk (by decide) | exact kd_ni (by omega) | exact kd_ng (by omega) | assumption | exact Ne.symm (by assumption))).trans (by first | assumption | exact hu_s | exact (hu_n (by first | exact kd_nk (by decide) | exact kd_ni (by omega) | exact kd_ng (by omega) | assumption | exact Ne.symm (by assumption))).trans (by first | assumption | exact hu_s)))
        · exact rfl
        · exact Nat.le_of_ble_eq_true rfl
        · exact ⟨Nat.le_of_ble_eq_true rfl, Nat.le_of_ble_eq_true rfl⟩
        · exact ⟨by dsimp only [rmm]; omega, by dsimp only [rmm]; omega⟩
        rintro r I1 ⟨rfl, rfl⟩
        refine V_if_eq X dX9_cycle_113 124 (by decide) (fun c_113 => ?_) (fun c_113 => ?_)
        · have h_113 := bz_f c_113
          refine V_aload_n X dX9_cycle_124 rfl rfl ?_
          refine V_iload_n X dX9_cycle_125 rfl ?_
          apply V_callV1 X dX9_cycle_126 mk_X9_236 iv_X9_isShort (c_short l (vp_in_nI2 hb (by omega)) hI1.1.2.2.1 (ct_up hI1.1.2.2.2 (by decide)))
          · first | assumption | exact hu_s | exact (hu_n (by first | exact kd_nk (by decide) | exact kd_ni (by omega) | exact kd_ng (by omega) | assumption | exact Ne.symm (by assumption))).trans (by first | assumption | exact hu_s | exact (hu_n (by first | exact kd_nk (by decide) | exact kd_ni (by omega) | exact kd_ng (by omega) | assumption | exact Ne.symm (by assumption))).trans (by first | assumption | exact hu_s | exact (hu_n (by first | exact kd_nk (by decide) | exact kd_ni (by omega) | exact kd_ng (by omega) | assumption | exact Ne.symm (by assumption))).trans (by first | assumption | exact hu_s)))
          · exact rfl
          · exact Nat.le_of_ble_eq_true rfl
          · exact ⟨Nat.le_of_ble_eq_true rfl, Nat.le_of_ble_eq_true rfl⟩
          · exact ⟨by dsimp only [rmm]; omega, by dsimp only [rmm]; omega⟩
          rintro r I1 ⟨rfl, rfl⟩
          refine V_vret X dX9_cycle_129 ?_ ?_ ?_
          · dsimp only [rmm]; omega
          · dsimp only [rmm]; omega
          exact ⟨rfl, by rw [cycS, if_neg h_5, if_pos c_95, if_neg h_113]⟩
        have h_113 := bz_t c_113
        refine V_aload_n X dX9_cycle_116 rfl rfl ?_
        refine V_iload_n X dX9_cycle_117 rfl ?_
        apply V_callV1 X dX9_cycle_118 mk_X9_239 iv_X9_make (c_make l hI1 hb)
        · first | assumption | exact hu_s | exact (hu_n (by first | exact kd_nk (by decide) | exact kd_ni (by omega) | exact kd_ng (by omega) | assumption | exact Ne.symm (by assumption))).trans (by first | assumption | exact hu_s | exact (hu_n (by first | exact kd_nk (by decide) | exact kd_ni (by omega) | exact kd_ng (by omega) | assumption | exact Ne.symm (by assumption))).trans (by first | assumption | exact hu_s | exact (hu_n (by first | exact kd_nk (by decide) | exact kd_ni (by omega) | exact kd_ng (by omega) | assumption | exact Ne.symm (by assumption))).trans (by first | assumption | exact hu_s)))
        · exact rfl
        · exact Nat.le_of_ble_eq_true rfl
        · exact ⟨Nat.le_of_ble_eq_true rfl, Nat.le_of_ble_eq_true rfl⟩
        · exact ⟨by dsimp only [rmm]; omega, by dsimp only [rmm]; omega⟩
        rintro r I1 ⟨rfl, rfl⟩
        refine V_goto X dX9_cycle_121 129 (by decide) ?_
        refine V_vret X dX9_cycle_129 ?_ ?_ ?_
        · dsimp only [rmm]; omega
        · dsimp only [rmm]; omega
        exact ⟨rfl, by rw [cycS, if_neg h_5, if_pos c_95, if_pos h_113]⟩
      refine V_aload_n X dX9_cycle_98 rfl rfl ?_
      refine M_geta X dX9_cycle_99 fk_X9_72 (by decide) rfl ?_
      refine V_iload_n X dX9_cycle_102 rfl ?_
      refine M_ialdN X dX9_cycle_103 (by decide) rfl (by omega) (by decide) ?_
      refine V_if_le X dX9_cycle_104 108 (by decide) (fun c_104 => ?_) (fun c_104 => ?_)
      · refine V_aload_n X dX9_cycle_108 rfl rfl ?_
        refine V_iload_n X dX9_cycle_109 rfl ?_
        apply V_callV1 X dX9_cycle_110 mk_X9_233 iv_X9_mayMake (c_mayMake l hb hs1)
        · first | assumption | exact hu_s | exact (hu_n (by first | exact kd_nk (by decide) | exact kd_ni (by omega) | exact kd_ng (by omega) | assumption | exact Ne.symm (by assumption))).trans (by first | assumption | exact hu_s | exact (hu_n (by first | exact kd_nk (by decide) | exact kd_ni (by omega) | exact kd_ng (by omega) | assumption | exact Ne.symm (by assumption))).trans (by first | assumption | exact hu_s | exact (hu_n (by first | exact kd_nk (by decide) | exact kd_ni (by omega) | exact kd_ng (by omega) | assumption | exact Ne.symm (by assumption))).trans (by first | assumption | exact hu_s)))
        · exact rfl
        · exact Nat.le_of_ble_eq_true rfl
        · exact ⟨Nat.le_of_ble_eq_true rfl, Nat.le_of_ble_eq_true rfl⟩
        · exact ⟨by dsimp only [rmm]; omega, by dsimp only [rmm]; omega⟩
        rintro r I1 ⟨rfl, rfl⟩
        refine V_if_eq X dX9_cycle_113 124 (by decide) (fun c_113 => ?_) (fun c_113 => ?_)
        · have h_113 := bz_f c_113
          refine V_aload_n X dX9_cycle_124 rfl rfl ?_
          refine V_iload_n X dX9_cycle_125 rfl ?_
          apply V_callV1 X dX9_cycle_126 mk_X9_236 iv_X9_isShort (c_short l (vp_in_nI2 hb (by omega)) hI1.1.2.2.1 (ct_up hI1.1.2.2.2 (by decide)))
          · first | assumption | exact hu_s | exact (hu_n (by first | exact kd_nk (by decide) | exact kd_ni (by omega) | exact kd_ng (by omega) | assumption | exact Ne.symm (by assumption))).trans (by first | assumption | exact hu_s | exact (hu_n (by first | exact kd_nk (by decide) | exact kd_ni (by omega) | exact kd_ng (by omega) | assumption | exact Ne.symm (by assumption))).trans (by first | assumption | exact hu_s | exact (hu_n (by first | exact kd_nk (by decide) | exact kd_ni (by omega) | exact kd_ng (by omega) | assumption | exact Ne.symm (by assumption))).trans (by first | assumption | exact hu_s)))
          · exact rfl
          · exact Nat.le_of_ble_eq_true rfl
          · exact ⟨Nat.le_of_ble_eq_true rfl, Nat.le_of_ble_eq_true rfl⟩
          · exact ⟨by dsimp only [rmm]; omega, by dsimp only [rmm]; omega⟩
          rintro r I1 ⟨rfl, rfl⟩
          refine V_vret X dX9_cycle_129 ?_ ?_ ?_
          · dsimp only [rmm]; omega
          · dsimp only [rmm]; omega
          exact ⟨rfl, by rw [cycS, if_neg h_5, if_neg c_95, if_pos c_104, if_neg h_113]⟩
        have h_113 := bz_t c_113
        refine V_aload_n X dX9_cycle_116 rfl rfl ?_
        refine V_iload_n X dX9_cycle_117 rfl ?_
        apply V_callV1 X dX9_cycle_118 mk_X9_239 iv_X9_make (c_make l hI1 hb)
        · first | assumption | exact hu_s | exact (hu_n (by first | exact kd_nk (by decide) | exact kd_ni (by omega) | exact kd_ng (by omega) | assumption | exact Ne.symm (by assumption))).trans (by first | assumption | exact hu_s | exact (hu_n (by first | exact kd_nk (by decide) | exact kd_ni (by omega) | exact kd_ng (by omega) | assumption | exact Ne.symm (by assumption))).trans (by first | assumption | exact hu_s | exact (hu_n (by first | exact kd_nk (by decide) | exact kd_ni (by omega) | exact kd_ng (by omega) | assumption | exact Ne.symm (by assumption))).trans (by first | assumption | exact hu_s)))
        · exact rfl
        · exact Nat.le_of_ble_eq_true rfl
        · exact ⟨Nat.le_of_ble_eq_true rfl, Nat.le_of_ble_eq_true rfl⟩
        · exact ⟨by dsimp only [rmm]; omega, by dsimp only [rmm]; omega⟩
        rintro r I1 ⟨rfl, rfl⟩
        refine V_goto X dX9_cycle_121 129 (by decide) ?_
        refine V_vret X dX9_cycle_129 ?_ ?_ ?_
        · dsimp only [rmm]; omega
        · dsimp only [rmm]; omega
        exact ⟨rfl, by rw [cycS, if_neg h_5, if_neg c_95, if_pos c_104, if_pos h_113]⟩
      refine V_vret X dX9_cycle_107 ?_ ?_ ?_
      · dsimp only [rmm]; omega
      · dsimp only [rmm]; omega
      exact ⟨rfl, by rw [cycS, if_neg h_5, if_neg c_95, if_neg c_104]⟩
    refine V_iconst (v := 1) X dX9_cycle_82 (by decide) ?_
    refine V_goto X dX9_cycle_83 87 (by decide) ?_
    refine V_isub X dX9_cycle_87 ?_
    refine M_iastN X dX9_cycle_88 (by decide) rfl (by omega) (by decide) ?_
    rw [show pa S 25 b (S.1 25 b - 1) = cycN S b from by rw [cycN, if_neg c_79]]
    refine V_aload_n X dX9_cycle_89 rfl rfl ?_
    refine M_geta X dX9_cycle_90 fk_X9_78 (by decide) rfl ?_
    refine V_iload_n X dX9_cycle_93 rfl ?_
    refine M_zaldN X dX9_cycle_94 (by decide) rfl (by omega) (by decide) ?_
    refine V_if_eq X dX9_cycle_95 108 (by decide) (fun c_95 => ?_) (fun c_95 => ?_)
    · refine V_aload_n X dX9_cycle_108 rfl rfl ?_
      refine V_iload_n X dX9_cycle_109 rfl ?_
      apply V_callV1 X dX9_cycle_110 mk_X9_233 iv_X9_mayMake (c_mayMake l hb hs1)
      · first | assumption | exact hu_s | exact (hu_n (by first | exact kd_nk (by decide) | exact kd_ni (by omega) | exact kd_ng (by omega) | assumption | exact Ne.symm (by assumption))).trans (by first | assumption | exact hu_s | exact (hu_n (by first | exact kd_nk (by decide) | exact kd_ni (by omega) | exact kd_ng (by omega) | assumption | exact Ne.symm (by assumption))).trans (by first | assumption | exact hu_s | exact (hu_n (by first | exact kd_nk (by decide) | exact kd_ni (by omega) | exact kd_ng (by omega) | assumption | exact Ne.symm (by assumption))).trans (by first | assumption | exact hu_s)))
      · exact rfl
      · exact Nat.le_of_ble_eq_true rfl
      · exact ⟨Nat.le_of_ble_eq_true rfl, Nat.le_of_ble_eq_true rfl⟩
      · exact ⟨by dsimp only [rmm]; omega, by dsimp only [rmm]; omega⟩
      rintro r I1 ⟨rfl, rfl⟩
      refine V_if_eq X dX9_cycle_113 124 (by decide) (fun c_113 => ?_) (fun c_113 => ?_)
      · have h_113 := bz_f c_113
        refine V_aload_n X dX9_cycle_124 rfl rfl ?_
        refine V_iload_n X dX9_cycle_125 rfl ?_
        apply V_callV1 X dX9_cycle_126 mk_X9_236 iv_X9_isShort (c_short l (vp_in_nI2 hb (by omega)) hI1.1.2.2.1 (ct_up hI1.1.2.2.2 (by decide)))
        · first | assumption | exact hu_s | exact (hu_n (by first | exact kd_nk (by decide) | exact kd_ni (by omega) | exact kd_ng (by omega) | assumption | exact Ne.symm (by assumption))).trans (by first | assumption | exact hu_s | exact (hu_n (by first | exact kd_nk (by decide) | exact kd_ni (by omega) | exact kd_ng (by omega) | assumption | exact Ne.symm (by assumption))).trans (by first | assumption | exact hu_s | exact (hu_n (by first | exact kd_nk (by decide) | exact kd_ni (by omega) | exact kd_ng (by omega) | assumption | exact Ne.symm (by assumption))).trans (by first | assumption | exact hu_s)))
        · exact rfl
        · exact Nat.le_of_ble_eq_true rfl
        · exact ⟨Nat.le_of_ble_eq_true rfl, Nat.le_of_ble_eq_true rfl⟩
        · exact ⟨by dsimp only [rmm]; omega, by dsimp only [rmm]; omega⟩
        rintro r I1 ⟨rfl, rfl⟩
        refine V_vret X dX9_cycle_129 ?_ ?_ ?_
        · dsimp only [rmm]; omega
        · dsimp only [rmm]; omega
        exact ⟨rfl, by rw [cycS, if_neg h_5, if_pos c_95, if_neg h_113]⟩
      have h_113 := bz_t c_113
      refine V_aload_n X dX9_cycle_116 rfl rfl ?_
      refine V_iload_n X dX9_cycle_117 rfl ?_
      apply V_callV1 X dX9_cycle_118 mk_X9_239 iv_X9_make (c_make l hI1 hb)
      · first | assumption | exact hu_s | exact (hu_n (by first | exact kd_nk (by decide) | exact kd_ni (by omega) | exact kd_ng (by omega) | assumption | exact Ne.symm (by assumption))).trans (by first | assumption | exact hu_s | exact (hu_n (by first | exact kd_nk (by decide) | exact kd_ni (by omega) | exact kd_ng (by omega) | assumption | exact Ne.symm (by assumption))).trans (by first | assumption | exact hu_s | exact (hu_n (by first | exact kd_nk (by decide) | exact kd_ni (by omega) | exact kd_ng (by omega) | assumption | exact Ne.symm (by assumption))).trans (by first | assumption | exact hu_s)))
      · exact rfl
      · exact Nat.le_of_ble_eq_true rfl
      · exact ⟨Nat.le_of_ble_eq_true rfl, Nat.le_of_ble_eq_true rfl⟩
      · exact ⟨by dsimp only [rmm]; omega, by dsimp only [rmm]; omega⟩
      rintro r I1 ⟨rfl, rfl⟩
      refine V_goto X dX9_cycle_121 129 (by decide) ?_
      refine V_vret X dX9_cycle_129 ?_ ?_ ?_
      · dsimp only [rmm]; omega
      · dsimp only [rmm]; omega
      exact ⟨rfl, by rw [cycS, if_neg h_5, if_pos c_95, if_pos h_113]⟩
    refine V_aload_n X dX9_cycle_98 rfl rfl ?_
    refine M_geta X dX9_cycle_99 fk_X9_72 (by decide) rfl ?_
    refine V_iload_n X dX9_cycle_102 rfl ?_
    refine M_ialdN X dX9_cycle_103 (by decide) rfl (by omega) (by decide) ?_
    refine V_if_le X dX9_cycle_104 108 (by decide) (fun c_104 => ?_) (fun c_104 => ?_)
    · refine V_aload_n X dX9_cycle_108 rfl rfl ?_
      refine V_iload_n X dX9_cycle_109 rfl ?_
      apply V_callV1 X dX9_cycle_110 mk_X9_233 iv_X9_mayMake (c_mayMake l hb hs1)
      · first | assumption | exact hu_s | exact (hu_n (by first | exact kd_nk (by decide) | exact kd_ni (by omega) | exact kd_ng (by omega) | assumption | exact Ne.symm (by assumption))).trans (by first | assumption | exact hu_s | exact (hu_n (by first | exact kd_nk (by decide) | exact kd_ni (by omega) | exact kd_ng (by omega) | assumption | exact Ne.symm (by assumption))).trans (by first | assumption | exact hu_s | exact (hu_n (by first | exact kd_nk (by decide) | exact kd_ni (by omega) | exact kd_ng (by omega) | assumption | exact Ne.symm (by assumption))).trans (by first | assumption | exact hu_s)))
      · exact rfl
      · exact Nat.le_of_ble_eq_true rfl
      · exact ⟨Nat.le_of_ble_eq_true rfl, Nat.le_of_ble_eq_true rfl⟩
      · exact ⟨by dsimp only [rmm]; omega, by dsimp only [rmm]; omega⟩
      rintro r I1 ⟨rfl, rfl⟩
      refine V_if_eq X dX9_cycle_113 124 (by decide) (fun c_113 => ?_) (fun c_113 => ?_)
      · have h_113 := bz_f c_113
        refine V_aload_n X dX9_cycle_124 rfl rfl ?_
        refine V_iload_n X dX9_cycle_125 rfl ?_
        apply V_callV1 X dX9_cycle_126 mk_X9_236 iv_X9_isShort (c_short l (vp_in_nI2 hb (by omega)) hI1.1.2.2.1 (ct_up hI1.1.2.2.2 (by decide)))
        · first | assumption | exact hu_s | exact (hu_n (by first | exact kd_nk (by decide) | exact kd_ni (by omega) | exact kd_ng (by omega) | assumption | exact Ne.symm (by assumption))).trans (by first | assumption | exact hu_s | exact (hu_n (by first | exact kd_nk (by decide) | exact kd_ni (by omega) | exact kd_ng (by omega) | assumption | exact Ne.symm (by assumption))).trans (by first | assumption | exact hu_s | exact (hu_n (by first | exact kd_nk (by decide) | exact kd_ni (by omega) | exact kd_ng (by omega) | assumption | exact Ne.symm (by assumption))).trans (by first | assumption | exact hu_s)))
        · exact rfl
        · exact Nat.le_of_ble_eq_true rfl
        · exact ⟨Nat.le_of_ble_eq_true rfl, Nat.le_of_ble_eq_true rfl⟩
        · exact ⟨by dsimp only [rmm]; omega, by dsimp only [rmm]; omega⟩
        rintro r I1 ⟨rfl, rfl⟩
        refine V_vret X dX9_cycle_129 ?_ ?_ ?_
        · dsimp only [rmm]; omega
        · dsimp only [rmm]; omega
        exact ⟨rfl, by rw [cycS, if_neg h_5, if_neg c_95, if_pos c_104, if_neg h_113]⟩
      have h_113 := bz_t c_113
      refine V_aload_n X dX9_cycle_116 rfl rfl ?_
      refine V_iload_n X dX9_cycle_117 rfl ?_
      apply V_callV1 X dX9_cycle_118 mk_X9_239 iv_X9_make (c_make l hI1 hb)
      · first | assumption | exact hu_s | exact (hu_n (by first | exact kd_nk (by decide) | exact kd_ni (by omega) | exact kd_ng (by omega) | assumption | exact Ne.symm (by assumption))).trans (by first | assumption | exact hu_s | exact (hu_n (by first | exact kd_nk (by decide) | exact kd_ni (by omega) | exact kd_ng (by omega) | assumption | exact Ne.symm (by assumption))).trans (by first | assumption | exact hu_s | exact (hu_n (by first | exact kd_nk (by decide) | exact kd_ni (by omega) | exact kd_ng (by omega) | assumption | exact Ne.symm (by assumption))).trans (by first | assumption | exact hu_s)))
      · exact rfl
      · exact Nat.le_of_ble_eq_true rfl
      · exact ⟨Nat.le_of_ble_eq_true rfl, Nat.le_of_ble_eq_true rfl⟩
      · exact ⟨by dsimp only [rmm]; omega, by dsimp only [rmm]; omega⟩
      rintro r I1 ⟨rfl, rfl⟩
      refine V_goto X dX9_cycle_121 129 (by decide) ?_
      refine V_vret X dX9_cycle_129 ?_ ?_ ?_
      · dsimp only [rmm]; omega
      · dsimp only [rmm]; omega
      exact ⟨rfl, by rw [cycS, if_neg h_5, if_neg c_95, if_pos c_104, if_pos h_113]⟩
    refine V_vret X dX9_cycle_107 ?_ ?_ ?_
    · dsimp only [rmm]; omega
    · dsimp only [rmm]; omega
    exact ⟨rfl, by rw [cycS, if_neg h_5, if_neg c_95, if_neg c_104]⟩
  have h_5 := bz_t c_5
  refine V_iconst (v := 1) X dX9_cycle_8 (by decide) ?_
  refine V_istore_n X dX9_cycle_9 (by decide) rfl ?_
  exact cyc_loop X hb 5 S hI (fun hm => by have := (hI.2.2.2.1 (nn (S.1 17 b)) (by omega)).1.2; omega) (by decide) (by rw [cycS, if_pos h_5])
