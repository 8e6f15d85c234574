/-! send -/
theorem kpN_cg {S S' : St} {s : Int32} (a : S'.1 54 = S.1 54) (b : S'.1 49 = S.1 49) : ∀ n, kpN S' s n = kpN S s n
  | 0 => rfl
  | n + 1 => by
    rw [kpN, kpN, kpN_cg a b n]
    unfold kpP
    rw [a, b]
theorem fstK_cg {S S' : St} {s : Int32} (a : S'.1 54 = S.1 54) (b : S'.1 49 = S.1 49) : ∀ n, fstK S' s n = fstK S s n
  | 0 => rfl
  | n + 1 => by
    rw [fstK, fstK, fstK_cg a b n]
    unfold kpP
    rw [a, b]
theorem kpI_cg {S S' : St} {b : Nat} (a : S'.1 54 = S.1 54) (c : S'.1 49 = S.1 49) (d : S'.1 48 0 = S.1 48 0) : kpI S' b = kpI S b := by
  unfold kpI kpB kpP
  rw [a, c, d]
theorem mkK_p {S : St} {b k i : Nat} {x : Int32} (h : k ≠ 54 ∧ k ≠ 49 ∧ k ≠ 48) : mkK (pa S k i x) b = pa (mkK S b) k i x := by
  have e54 : (pa S k i x).1 54 = S.1 54 := by funext j; exact pa_n _ _ (Ne.symm h.1)
  have e49 : (pa S k i x).1 49 = S.1 49 := by funext j; exact pa_n _ _ (Ne.symm h.2.1)
  have e48 : (pa S k i x).1 48 0 = S.1 48 0 := pa_n _ _ (Ne.symm h.2.2)
  unfold mkK kpA
  rw [e48, kpN_cg e54 e49, fstK_cg e54 e49]
  split
  · exact pa_cm h.1
  · rfl
theorem mkK_2 {S : St} {b : Nat} : (mkK S b).2 = S.2 := by
  unfold mkK
  split <;> rfl
theorem mx_24 {Y T : St} {b : Nat} {v : Int32} : pa (mx Y T) 24 b v = mx (pa Y 24 b v) T := by
  refine St_ext (fun k i => ?_) rfl
  by_cases h : mxF k
  · rw [mx_y h, pa_1, pa_1, mx_y h]
  · rw [mx_n h, pa_n _ _ (by omega), mx_n h]
theorem kpI_ms {S T : St} {b b' M cnt : Nat} (hM : nn (T.1 48 0) = M) (hM2 : M < 2 ^ 20) (h49 : ∀ j, T.1 49 j = S.1 49 j) (h54 : T.1 54 M = 0) : kpI (msN S T b M cnt) b' = kpI T b' := by
  have e48 : nn ((msN S T b M cnt).1 48 0) = M + 1 := by
    show nn (nI (M + 1)) = M + 1
    exact nnI (by omega)
  unfold kpI
  rw [e48, fl_s, hM]
  have e0 : ¬ kpB (msN S T b M cnt) (nI b') M = true := fun z => (kpB_iff.mp z).1 h54
  rw [if_neg e0, List.append_nil]
  refine fl_cg fun x hx => Bool.eq_iff_iff.mpr ?_
  rw [kpB_iff, kpB_iff]
  have e : (msN S T b M cnt).1 49 x = T.1 49 x := by
    rw [h49]
    have hx2 : x ≠ M := by omega
    simp [msN, mx, mkA, pa_1, hx2]
  show ¬ T.1 54 x = 0 ∧ (msN S T b M cnt).1 49 x = nI b' ↔ _
  rw [e]
theorem mkT_14 {F : St} {b M a x : Nat} : (mkT F b M a).1 14 x = if x = 1200 * a + nn (F.1 13 a) then nI M else F.1 14 x := by
  simp [mkT, mailN, pa_1]
theorem mkT_2 {F : St} {b M a : Nat} : (mkT F b M a).2 = F.2 := rfl
theorem b01 {p : Prop} [Decidable p] : (if p then (1 : Int32) else 0) = 0 ∨ (if p then (1 : Int32) else 0) = 1 := by
  split
  · exact Or.inr rfl
  · exact Or.inl rfl
theorem lft_cg {S S' : St} {s : Int32} (a : S'.1 32 0 = S.1 32 0) (b : S'.1 33 = S.1 33) (c : S'.1 34 = S.1 34) (d : S'.1 40 = S.1 40) (e : S'.1 44 = S.1 44) : lft S' s ↔ lft S s := by
  unfold lft
  rw [anyI_iff, anyI_iff, a]
  unfold itP
  rw [b, c, d, e]
theorem send_RJ {T G : St} {Q : Nat → List Nat} {J J1 J2 J3 : aH} {b M a cnt : Nat} {f : Nat → Option Nat} (R : RJ T Q J) (h48 : nn (T.1 48 0) = M) (hM : M < 2 ^ 20) (c40 : cnt ≤ 40) (hms : ∀ x, x < cnt → MsE T Q J f (40 * M + x) x) (h20 : nn (T.1 15 0) ≤ 20) (hb : b < nn (T.1 15 0)) (ha : a < nn (T.1 8 0)) (h13 : ∀ s, s < nn (T.1 8 0) → sm (T.1 13 s) 512)
    (F1 : Fr 26 b (hu J (kd 10 M 0) (.inl (4, aR cnt f))) J1) (L1 : LL J1 26 b (kpL G b)) (F2 : Fr 22 a J1 J2) (L2 : LL J2 22 a (mlL T a ++ [kd 8 M 0])) (F3 : Fr 20 5 J2 J3) (L3 : LL J3 20 5 (rg 8 M ++ [kd 8 M 0]))
    (g : ∀ k, k ≠ 48 ∧ k ≠ 49 ∧ k ≠ 50 ∧ k ≠ 53 ∧ k ≠ 24 ∧ k ≠ 70 ∧ k ≠ 51 ∧ k ≠ 52 ∧ k ≠ 54 → G.1 k = T.1 k) (g2 : G.2 = T.2) (g48 : G.1 48 0 = nI (M + 1)) (g51 : G.1 51 M = nI cnt) (g51n : ∀ m, m ≠ M → G.1 51 m = T.1 51 m) (gk : ∀ b', b' ≠ b → b' < 20 → kpI G b' = kpI T b') : RJ (mkT G b M a) Q J3 := by
  have ek : ∀ b', kpI (mkT G b M a) b' = kpI G b' := fun b' => kpI_cg (by funext j; exact mkT_k (by decide)) (by funext j; exact mkT_k (by decide)) (mkT_k (by decide))
  have e13 : ∀ s, G.1 13 s = T.1 13 s := fun s => congrFun (g 13 (by decide)) s
  have e14 : ∀ s, G.1 14 s = T.1 14 s := fun s => congrFun (g 14 (by decide)) s
  have hs := h13 a ha
  have hs2 := hs.2
  have hi := sm_inc hs (by decide)
  refine RJ.send (f := f) R h48 hM c40 hms h20 hb ha F1 ?_ F2 ?_ F3 L3 ?_ ?_ ?_ ?_ ?_ ?_ ?_
  · unfold kpL
    rw [ek]
    exact L1
  · have : mlL (mkT G b M a) a = mlL T a ++ [kd 8 M 0] := by
      unfold mlL
      rw [mkT_13, if_pos rfl, e13, hi.2, List.range_succ, List.map_append]
      congr 1
      · refine List.map_congr_left fun j hj => ?_
        have hj := List.mem_range.mp hj
        rw [mkT_14, if_neg (by rw [e13]; omega), e14]
      · show [kd 8 (nn ((mkT G b M a).1 14 (1200 * a + nn (T.1 13 a)))) 0] = _
        rw [mkT_14, if_pos (by rw [e13]), nnI (by omega)]
    rw [this]
    exact L2
  · intro k hk
    funext j
    rw [mkT_k (by omega)]
    exact congrFun (g k (by omega)) j
  · rw [mkT_2]
    exact g2
  · rw [mkT_k (by decide)]
    exact g48
  · rw [mkT_k (by decide)]
    exact g51
  · intro m hm
    rw [mkT_k (by decide)]
    exact g51n m hm
  · intro s hsa hs8
    have h5 := (h13 s hs8).2
    unfold mlL
    rw [mkT_13, if_neg hsa, e13]
    refine List.map_congr_left fun j hj => ?_
    have hj := List.mem_range.mp hj
    rw [mkT_14, if_neg (by rw [e13]; omega), e14]
  · intro b' h1 h2
    rw [ek]
    exact gk b' h1 h2
theorem kpI_K {T : St} {b b' : Nat} (hne : ¬ nI b' = nI b) : kpI (mkK T b) b' = kpI T b' := by
  unfold mkK
  split
  · rename_i h5
    have hp : 0 < (kpI T b).length := by
      rw [show (kpI T b).length = kpA T (nI b) from (kp_len _).symm]
      rcases Nat.eq_zero_or_pos (kpA T (nI b)) with z | z
      · rw [z] at h5
        exact absurd h5 (by decide)
      · exact z
    rw [fst_kp hp]
    exact kpI_54 hp hne
  · rfl
theorem tkF_k {S : St} {b M k j : Nat} (h : k ≠ 44 ∧ k ≠ 46 ∧ k ≠ 47 ∧ k ≠ 56 ∧ k ≠ 57 ∧ k ≠ 58) : (tkF S b M).1.1 k j = S.1 k j := by
  unfold tkF
  split
  · rfl
  · exact tkY_k h _ (Nat.le_refl _)
theorem tkF_c {S : St} {b M : Nat} (h60 : nn (S.1 32 0) ≤ 60) (h8 : ∀ j, j < 60 → sm (S.1 44 j) 8) (h22 : sm (S.1 22 b) 10) : (tkF S b M).2 ≤ 40 := by
  unfold tkF
  split
  · exact Nat.zero_le _
  · have := tkY_B (S := S) (b := b) (B := nn (bdS S b)) (M := M) _ (Nat.le_refl _)
    have := (bd_sm h22).2
    omega
theorem make_R {S : St} {b M : Nat} (hM : nn (S.1 48 0) = M) (h60 : nn (S.1 32 0) ≤ 60) (h8 : ∀ j, j < 60 → sm (S.1 44 j) 8) (hb : b < 2 ^ 31) (hr : rdy S (nI b)) {r : Int32} (N3 : St) (e3 : N3 = pa (msN S (tkF (gh S) b M).1 b M (tkF (gh S) b M).2) 24 b ((msN S (tkF (gh S) b M).1 b M (tkF (gh S) b M).2).1 24 b + 1)) (hrr : r = if rdy (pa (mkK N3 b) 54 M 1) (nI b) then 1 else 0) : makeS S b = mkT (pa (pa (mkK N3 b) 54 M 1) 52 M r) b M (nn (S.1 17 b)) := by
  have on : ¬ S.1 23 b = 0 := by
    have := hr.2
    rw [nnI hb] at this
    exact this
  have et : tkF (gh S) b M = tkY (gh S) b (nn (bdS S b)) M (itI (gh S) b).length := if_neg on
  have eq := mkQ_tk (b := b) (M := M) h60 h8
  rw [← et] at eq
  generalize hq : tkF (gh S) b M = q at *
  have hk23 : ∀ k j, k ≠ 44 ∧ k ≠ 46 ∧ k ≠ 47 ∧ k ≠ 56 ∧ k ≠ 57 ∧ k ≠ 58 → q.1.1 k j = (gh S).1 k j := fun k j hk => by rw [← hq]; exact tkF_k hk
  have e4 : N3 = pa (pa (mx (mkB (mkA S b M) b) q.1) 51 M (nI q.2)) 52 M 0 := by
    rw [e3]
    show pa (pa (pa (mx (mkA S b M) q.1) 51 M (nI q.2)) 52 M 0) 24 b ((mkA S b M).1 24 b + 1) = _
    rw [pa_cm (k := 52) (k' := 24) (by decide), pa_cm (k := 51) (k' := 24) (by decide), mx_24]
    rfl
  unfold makeS
  rw [if_pos hr, hM]
  unfold mkR
  rw [eq]
  dsimp only
  congr 1
  unfold mkE
  dsimp only
  have e5 : mkK N3 b = pa (pa (mkK (mx (mkB (mkA S b M) b) q.1) b) 51 M (nI q.2)) 52 M 0 := by rw [e4, mkK_p (by decide), mkK_p (by decide)]
  have hr2 : r = if lft (pa (pa (mkK (mx (mkB (mkA S b M) b) q.1) b) 54 M 1) 51 M (nI q.2)) (nI b) then 1 else 0 := by
    rw [hrr]
    have h1 : rdy (pa (mkK N3 b) 54 M 1) (nI b) ↔ lft (pa (pa (mkK (mx (mkB (mkA S b M) b) q.1) b) 54 M 1) 51 M (nI q.2)) (nI b) := by
      unfold rdy
      have h23 : (pa (mkK N3 b) 54 M 1).1 23 (nn (nI b)) = S.1 23 b := by
        rw [pa_n _ _ (by decide), mkK_k (by decide), e4, nnI hb]
        show q.1.1 23 b = _
        exact hk23 23 b (by decide)
      rw [h23, lft_cg (S := pa (pa (mkK (mx (mkB (mkA S b M) b) q.1) b) 54 M 1) 51 M (nI q.2)) (S' := pa (mkK N3 b) 54 M 1) (by rw [e5]; rfl) (by rw [e5]; rfl) (by rw [e5]; rfl) (by rw [e5]; rfl) (by rw [e5]; rfl)]
      exact ⟨fun z => z.1, fun z => ⟨z, on⟩⟩
    by_cases z : lft (pa (pa (mkK (mx (mkB (mkA S b M) b) q.1) b) 54 M 1) 51 M (nI q.2)) (nI b)
    · rw [if_pos z, if_pos (h1.mpr z)]
    · rw [if_neg z, if_neg (fun y => z (h1.mp y))]
  rw [← hr2, e5, pa_cm (k := 52) (k' := 54) (by decide), pa_pa, pa_cm (k := 51) (k' := 54) (by decide)]
theorem make_N {S : St} {b M : Nat} (hM : nn (S.1 48 0) = M) (h60 : nn (S.1 32 0) ≤ 60) (h8 : ∀ j, j < 60 → sm (S.1 44 j) 8) (hb : b < 2 ^ 31) (hr : ¬ rdy S (nI b)) {r : Int32} (N2 : St) (e2 : N2 = msN S (tkF (gh S) b M).1 b M (tkF (gh S) b M).2) (hrr : r = if rdy N2 (nI b) then 1 else 0) : makeS S b = mkT (pa N2 52 M r) b M (nn (S.1 17 b)) := by
  have et : tkF (gh S) b M = (gh S, 0) := tkF_no hb h60 h8 (fun z => hr (rdy_gh.mp z))
  rw [et] at e2
  have e3 : N2 = pa (pa (mkA S b M) 51 M 0) 52 M 0 := by
    rw [e2]
    show pa (pa (mx (mkA S b M) (gh S)) 51 M (nI 0)) 52 M 0 = _
    rw [mx_N]
    rfl
  have h0 : r = 0 := by
    rw [hrr, if_neg]
    intro z
    refine hr ?_
    rw [e3] at z
    unfold rdy at z ⊢
    rw [lft_cg (S := S) (S' := pa (pa (mkA S b M) 51 M 0) 52 M 0) rfl rfl rfl rfl rfl] at z
    refine ⟨z.1, ?_⟩
    have := z.2
    rw [pa_n _ _ (by decide), pa_n _ _ (by decide), mkA_k (by decide)] at this
    exact this
  unfold makeS
  rw [if_neg hr, hM, h0]
  unfold mkN
  rw [e3, pa_pa]
