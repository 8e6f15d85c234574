/-! send, the pure part: the message's own fields out of X, all else out of T -/
abbrev mxF (k : Nat) : Prop := k = 48 ∨ k = 49 ∨ k = 50 ∨ k = 53 ∨ k = 24 ∨ k = 70
def mx (X T : St) : St := (fun k i => if mxF k then X.1 k i else T.1 k i, T.2)
theorem mx_y {X T : St} {k i : Nat} (h : mxF k) : (mx X T).1 k i = X.1 k i := if_pos h
theorem mx_n {X T : St} {k i : Nat} (h : ¬ mxF k) : (mx X T).1 k i = T.1 k i := if_neg h
theorem mx_mv {X T : St} {M i n : Nat} : mv1 (mx X T) M i n = mx X (mv1 T M i n) := by
  refine Prod.ext ?_ ?_
  · funext k j
    rw [mv1_D]
    by_cases h : mxF k
    · rw [mx_y h, shiftS_k (by omega), mvD_1, if_neg (by omega), if_neg (by omega), if_neg (by omega), mx_y h]
    · rw [mx_n h, mv1_D, sh_1 rfl, sh_1 rfl]
      have e44 : (mvD (mx X T) M i n).1 44 i = (mvD T M i n).1 44 i := rfl
      rw [e44]
      have ed : ∀ j, (mvD (mx X T) M i n).1 k j = (mvD T M i n).1 k j := fun j => by
        rw [mvD_1, mvD_1, mx_n h]
        rfl
      rw [ed, ed]
  · funext k j
    rw [mv1_D]
    show _ = (mv1 T M i n).2 k j
    rw [mv1_D, sh_2 rfl, sh_2 rfl]
    rfl
theorem mx_itP {X T : St} {b i : Nat} : itP (mx X T) (nI b) i ↔ itP T (nI b) i := Iff.rfl
theorem mx_W {X : St} {b B M i : Nat} : ∀ (f : Nat) (T : St) (n : Nat), mvW b B M i f (mx X T, n) = (mx X (mvW b B M i f (T, n)).1, (mvW b B M i f (T, n)).2)
  | 0, _, _ => rfl
  | f + 1, T, n => by
    rw [mvW, mvW]
    dsimp only
    by_cases h : itP T (nI b) i ∧ n < B
    · rw [if_pos h, if_pos (show itP (mx X T) (nI b) i ∧ n < B from h), mx_mv]
      exact mx_W f _ _
    · rw [if_neg h, if_neg (show ¬ (itP (mx X T) (nI b) i ∧ n < B) from h)]
theorem mx_fold {X : St} {b B M : Nat} : ∀ (L : List Nat) (q : St × Nat), L.foldl (tkG b B M) (mx X q.1, q.2) = (mx X (L.foldl (tkG b B M) q).1, (L.foldl (tkG b B M) q).2)
  | [], _ => rfl
  | a :: L, q => by
    show L.foldl (tkG b B M) (mvW b B M a 9 (mx X q.1, q.2)) = _
    rw [mx_W]
    exact mx_fold L (mvW b B M a 9 (q.1, q.2))
/-- S while a message is being made -/
abbrev gh (S : St) : St := pa S 70 0 1
theorem mx_A {S : St} {b M : Nat} : mx (mkB (mkA S b M) b) (gh S) = mkB (mkA S b M) b := by
  refine St_ext (fun k i => ?_) rfl
  by_cases h : mxF k
  · exact mx_y h
  · rw [mx_n h, mkB_k (by omega), mkA_k (by omega)]
    exact pa_n _ _ (by omega)
theorem mx_N {S : St} {b M : Nat} : mx (mkA S b M) (gh S) = mkA S b M := by
  refine St_ext (fun k i => ?_) rfl
  by_cases h : mxF k
  · exact mx_y h
  · rw [mx_n h, mkA_k (by omega)]
    exact pa_n _ _ (by omega)
theorem mkQ_tk {S : St} {b M : Nat} (h60 : nn (S.1 32 0) ≤ 60) (h8 : ∀ j, j < 60 → sm (S.1 44 j) 8) : mkQ S b M (nn (S.1 32 0)) = (mx (mkB (mkA S b M) b) (tkY (gh S) b (nn (bdS S b)) M (itI (gh S) b).length).1, (tkY (gh S) b (nn (bdS S b)) M (itI (gh S) b).length).2) := by
  have eB : bdS (mkB (mkA S b M) b) b = bdS S b := rfl
  have e1 := lpq_fl (b := b) (B := nn (bdS S b)) (M := M) (q := (mkB (mkA S b M) b, 0)) (p := siB S (nI b)) (fun j hj => by
    show sm ((mkB (mkA S b M) b).1 44 j) 8
    rw [mkB_k (by decide), mkA_k (by decide)]
    exact h8 j hj) (fun j => rfl) (nn (S.1 32 0)) h60
  unfold mkQ
  rw [eB, e1]
  have e2 : ((mkB (mkA S b M) b, 0) : St × Nat) = (mx (mkB (mkA S b M) b) (gh S), 0) := by rw [mx_A]
  rw [e2]
  have e3 : (fl (siB S (nI b)) (nn (S.1 32 0))) = itI (gh S) b := rfl
  rw [e3]
  have e4 := mx_fold (X := mkB (mkA S b M) b) (b := b) (B := nn (bdS S b)) (M := M) (itI (gh S) b) (gh S, 0)
  unfold tkY
  rw [List.take_length]
  exact e4
theorem rdy_gh {S : St} {b : Nat} : rdy (gh S) (nI b) ↔ rdy S (nI b) := by
  unfold rdy lft
  rw [anyI_iff, anyI_iff]
  exact Iff.rfl
/-- nothing ready: nothing taken -/
theorem tkF_no {S : St} {b M : Nat} (hb : b < 2 ^ 31) (h60 : nn (S.1 32 0) ≤ 60) (h8 : ∀ j, j < 60 → sm (S.1 44 j) 8) (h : ¬ rdy S (nI b)) : tkF S b M = (S, 0) := by
  unfold tkF
  by_cases on : S.1 23 b = 0
  · exact if_pos on
  · rw [if_neg on]
    have h0 : enN S b = 0 := by
      rcases Nat.eq_zero_or_pos (enN S b) with z | z
      · exact z
      · exact absurd ⟨(enN_pos (fun i hi => h8 i (by omega))).mp z, by rw [nnI hb]; exact on⟩ h
    have := tkY_stop (B := nn (bdS S b)) (M := M) (y := 0) h60 h8 (Nat.zero_le _) (by unfold tkC; rw [EnL_en, h0]; exact Nat.zero_le _)
    rw [this]
    rfl
/-- the state as the constructor leaves it -/
def msN (S T : St) (b M cnt : Nat) : St := pa (pa (mx (mkA S b M) T) 51 M (nI cnt)) 52 M 0
theorem ob8_lt {S : St} {i : Nat} (h : i < nn (S.1 48 0)) : ob S 8 i = some (.inr (3, msO S i)) := if_pos h
theorem ob8_ge {S : St} {i : Nat} (h : ¬ i < nn (S.1 48 0)) (h2 : ¬ (i = nn (S.1 48 0) ∧ ¬ S.1 70 0 = 0)) : ob S 8 i = none := (if_neg h).trans (if_neg h2)
theorem gh_ovc {S : St} {J : aH} {M : Nat} (hM : nn (S.1 48 0) = M) : hu (ovc S J) (kd 8 M 0) (.inr (3, msZ)) = ovc (gh S) J := by
  refine hu_ovc rfl ?_ ?_
  · show (if M < nn (S.1 48 0) then (some (.inr (3, msO (gh S) M)) : Option aO) else if M = nn (S.1 48 0) ∧ ¬ (gh S).1 70 0 = 0 then some (.inr (3, msZ)) else none) = _
    rw [if_neg (by omega), if_pos ⟨hM.symm, by rw [pa_s]; decide⟩]
  · intro k' i' hk hne
    rcases kO_c hk with rfl | rfl | rfl | rfl | rfl | rfl | rfl | rfl | rfl
    · exact oc1 rfl rfl rfl rfl
    · exact oc2 rfl rfl rfl
    · exact oc3 rfl rfl rfl rfl
    · exact oc4 rfl rfl rfl rfl rfl
    · exact oc5 rfl rfl rfl rfl rfl rfl rfl rfl rfl rfl rfl rfl rfl rfl rfl rfl
    · exact oc6 rfl rfl rfl rfl rfl rfl rfl rfl rfl rfl
    · exact oc7 rfl rfl rfl
    · have hi : ¬ i' = nn (S.1 48 0) := fun z => hne ⟨rfl, by omega⟩
      by_cases q : i' < nn (S.1 48 0)
      · rw [ob8_lt (S := gh S) q, ob8_lt q]
        rfl
      · rw [ob8_ge (S := gh S) q (fun z => hi z.1), ob8_ge q (fun z => hi z.1)]
    · exact oc11 rfl
theorem new_ms {S T : St} {J : aH} {b M cnt : Nat} (hM : nn (S.1 48 0) = M) (hM2 : M < 2 ^ 20) (hg : S.1 70 0 = 0) (hT : ∀ k, k ≠ 44 ∧ k ≠ 46 ∧ k ≠ 47 ∧ k ≠ 56 ∧ k ≠ 57 ∧ k ≠ 58 → ∀ j, T.1 k j = (gh S).1 k j) (h54 : S.1 54 M = 0) : hu (ovc T J) (kd 8 M 0) (.inr (3, [.int (nI M), .int (nI b), .int (S.1 24 b), .int (S.1 0 0), .ref (kd 10 M 0), .int 0, .int 0])) = ovc (msN S T b M cnt) J := by
  have e48 : nn ((msN S T b M cnt).1 48 0) = M + 1 := by
    show nn (nI (M + 1)) = M + 1
    exact nnI (by omega)
  have h48 : T.1 48 0 = S.1 48 0 := hT 48 (by decide) 0
  have h24 : ∀ i, T.1 24 i = S.1 24 i := fun i => hT 24 (by decide) i
  refine hu_ovc rfl ?_ ?_
  · have : ob (msN S T b M cnt) 8 M = some (.inr (3, msO (msN S T b M cnt) M)) := if_pos (by omega)
    have g49 : (msN S T b M cnt).1 49 M = nI b := by simp [msN, mx, mkA, pa_1]
    have g50 : (msN S T b M cnt).1 50 M = S.1 24 b := by simp [msN, mx, mkA, pa_1]
    have g53 : (msN S T b M cnt).1 53 M = S.1 0 0 := by simp [msN, mx, mkA, pa_1]
    have g52 : (msN S T b M cnt).1 52 M = 0 := by simp [msN, pa_1]
    have g54 : (msN S T b M cnt).1 54 M = 0 := by
      show T.1 54 M = 0
      rw [hT 54 (by decide) M]
      exact h54
    rw [this]
    unfold msO
    rw [g49, g50, g53, g52, g54]
  · intro k' i' hk hne
    rcases kO_c hk with rfl | rfl | rfl | rfl | rfl | rfl | rfl | rfl | rfl
    · exact oc1 rfl rfl rfl rfl
    · exact oc2 rfl rfl rfl
    · exact oc3 rfl rfl rfl rfl
    · exact oc4 rfl rfl rfl rfl rfl
    · exact oc5 rfl rfl rfl rfl rfl rfl rfl rfl (h24 i').symm rfl rfl rfl rfl rfl rfl rfl
    · exact oc6 rfl rfl rfl rfl rfl rfl rfl rfl rfl rfl
    · exact oc7 rfl rfl rfl
    · have hi : i' ≠ M := fun z => hne ⟨rfl, z⟩
      have k49 : (msN S T b M cnt).1 49 i' = T.1 49 i' := by rw [hT 49 (by decide)]; simp [msN, mx, mkA, pa_1, hi]
      have k50 : (msN S T b M cnt).1 50 i' = T.1 50 i' := by rw [hT 50 (by decide)]; simp [msN, mx, mkA, pa_1, hi]
      have k53 : (msN S T b M cnt).1 53 i' = T.1 53 i' := by rw [hT 53 (by decide)]; simp [msN, mx, mkA, pa_1, hi]
      have k52 : (msN S T b M cnt).1 52 i' = T.1 52 i' := by
        unfold msN
        rw [pa_i _ _ hi, pa_n _ _ (by decide)]
        exact mx_n (by decide)
      have k54 : (msN S T b M cnt).1 54 i' = T.1 54 i' := rfl
      have em : msO (msN S T b M cnt) i' = msO T i' := by
        unfold msO
        rw [k49, k50, k53, k52, k54]
      by_cases q : i' < M
      · rw [ob8_lt (show i' < nn ((msN S T b M cnt).1 48 0) by omega), ob8_lt (show i' < nn (T.1 48 0) by rw [h48]; omega), em]
      · rw [ob8_ge (show ¬ i' < nn ((msN S T b M cnt).1 48 0) by omega) (fun z => z.2 hg), ob8_ge (show ¬ i' < nn (T.1 48 0) by rw [h48]; omega) (fun z => hi (by have := z.1; rw [h48] at this; omega))]
    · exact oc11 rfl
/-- the class's order of the last writes, and the mail -/
def clT (F : St) (b M a : Nat) : St := pa (pa (pa (pa (pa (pa F 31 b (F.1 52 M)) 27 b 1) 28 b 0) 25 b (F.1 20 b)) 26 b (F.1 21 b)) 12 a (F.1 12 a - 1)
theorem ovc_ml {S : St} {J : aH} {a M : Nat} : ovc S J = ovc (mailN S a M) J := by
  refine ovc_ext fun k j hk => ?_
  rcases kO_c hk with rfl | rfl | rfl | rfl | rfl | rfl | rfl | rfl | rfl
  · exact oc1 rfl rfl rfl rfl
  · exact oc2 rfl rfl rfl
  · exact oc3 rfl rfl rfl rfl
  · exact oc4 rfl rfl rfl rfl rfl
  · exact oc5 rfl rfl rfl rfl rfl rfl rfl rfl rfl rfl rfl rfl rfl rfl rfl rfl
  · exact oc6 rfl rfl rfl rfl rfl rfl rfl rfl rfl rfl
  · exact oc7 rfl rfl rfl
  · exact oc8 rfl rfl rfl rfl rfl rfl rfl
  · exact oc11 rfl
theorem mkT_cl {F : St} {b M a : Nat} : mkT F b M a = mailN (clT F b M a) a M := by
  refine St_ext (fun f j => ?_) rfl
  simp only [mkT, clT, mailN, pa_1]
  by_cases h : f = 31
  · subst h; simp
  by_cases h : f = 14
  · subst h; simp
  by_cases h : f = 13
  · subst h; simp
  by_cases h : f = 12
  · subst h; simp
  by_cases h : f = 27
  · subst h; simp
  by_cases h : f = 25
  · subst h; simp
  by_cases h : f = 26
  · subst h; simp
  by_cases h : f = 28
  · subst h; simp
  simp [*]
section Snd
variable {T F : St} {Q : Nat → List Nat} {J J1 J2 J3 : aH} {b M a cnt : Nat} {f : Nat → Option Nat}
theorem RJ.send (R : RJ T Q J) (h48 : nn (T.1 48 0) = M) (hM : M < 2 ^ 20) (c40 : cnt ≤ 40) (hms : ∀ x, x < cnt → MsE T Q J f (40 * M + x) x) (h20 : nn (T.1 15 0) ≤ 20) (hb : b < nn (T.1 15 0)) (ha : a < nn (T.1 8 0))
    (F1 : Fr 26 b (hu J (kd 10 M 0) (.inl (4, aR cnt f))) J1) (L1 : LL J1 26 b (kpL F b)) (F2 : Fr 22 a J1 J2) (L2 : LL J2 22 a (mlL F a)) (F3 : Fr 20 5 J2 J3) (L3 : LL J3 20 5 (rg 8 M ++ [kd 8 M 0]))
    (g : ∀ k, k ≠ 48 ∧ k ≠ 49 ∧ k ≠ 50 ∧ k ≠ 51 ∧ k ≠ 52 ∧ k ≠ 53 ∧ k ≠ 54 ∧ k ≠ 12 ∧ k ≠ 13 ∧ k ≠ 14 ∧ k ≠ 24 ∧ k ≠ 25 ∧ k ≠ 26 ∧ k ≠ 27 ∧ k ≠ 28 ∧ k ≠ 31 ∧ k ≠ 70 → F.1 k = T.1 k) (g2 : F.2 = T.2) (g48 : F.1 48 0 = nI (M + 1)) (g51 : F.1 51 M = nI cnt) (g51n : ∀ m, m ≠ M → F.1 51 m = T.1 51 m) (gm : ∀ s, s ≠ a → s < nn (T.1 8 0) → mlL F s = mlL T s) (gk : ∀ b', b' ≠ b → b' < 20 → kpI F b' = kpI T b') : RJ F Q J3 := by
  have e48 : nn (F.1 48 0) = M + 1 := by rw [g48]; exact nnI (by omega)
  have ej : ∀ k i x, k = 0 ∨ k = 9 ∨ (k = 10 ∧ i ≠ M) → J3 (kd k i x) = J (kd k i x) := fun k i x hk => by
    rw [F3.k (by omega) (by omega), F2.k (by omega) (by omega), F1.k (by omega) (by omega)]
    exact hu_n (kd_ne fun z => by omega)
  have earr : J3 (kd 10 M 0) = some (.inl (4, aR cnt f)) := by
    rw [F3.k (by omega) (by omega), F2.k (by omega) (by omega), F1.k (by omega) (by omega)]
    exact hu_s
  have R0 : LSp (lsL T Q) (hu J (kd 10 M 0) (.inl (4, aR cnt f))) := R.1.J fun k i x hk => hu_n (kd_nk (by omega))
  obtain ⟨E1, E2, E3, E4, E5, E6⟩ := R.2
  have e32 : F.1 32 = T.1 32 := g 32 (by decide)
  refine ⟨(((R0.upd (k := 26) rfl F1 L1).upd (k := 22) rfl F2 L2).upd (k := 20) rfl F3 L3).to (lsT3 ?_ ?_ ?_ ?_), ?_, ?_, ?_, ?_, ?_, (ej 0 0 0 (by omega)).trans E6⟩
  · show some (rg 8 (nn (F.1 48 0))) = _
    rw [e48, rg_s]
  · show (if a < nn (F.1 8 0) then some (mlL F a) else none) = _
    rw [g 8 (by decide), if_pos ha]
  · show (if b < nn (F.1 15 0) then some (kpL F b) else none) = _
    rw [g 15 (by decide), if_pos hb]
  · intro k i hk hne hne1 hne2
    rcases lk_c hk with rfl | rfl | rfl | rfl | rfl
    · exact ls20 (j := 5) (fun q => hne2 ⟨rfl, q⟩) (Or.inl (congrFun (g 1 (by decide)) 0)) (Or.inl (congrFun (g 4 (by decide)) 0)) (Or.inl (congrFun (g 8 (by decide)) 0)) (Or.inl (congrFun (g 15 (by decide)) 0)) (Or.inl (congrFun (g 32 (by decide)) 0)) (Or.inr rfl)
    · show (if i < nn (F.1 8 0) then some (mlL F i) else none) = (if i < nn (T.1 8 0) then some (mlL T i) else none)
      rw [g 8 (by decide)]
      by_cases hi : i < nn (T.1 8 0)
      · rw [if_pos hi, if_pos hi, gm i (fun q => hne1 ⟨rfl, q⟩) hi]
      · rw [if_neg hi, if_neg hi]
    · exact ls24 (congrFun (g 15 (by decide)) 0) (congrFun (g 32 (by decide)) 0) (g 33 (by decide)) (g 34 (by decide))
    · show (if i < nn (F.1 15 0) then some (kpL F i) else none) = (if i < nn (T.1 15 0) then some (kpL T i) else none)
      rw [g 15 (by decide)]
      by_cases hi : i < nn (T.1 15 0)
      · rw [if_pos hi, if_pos hi]
        unfold kpL
        rw [gk i (fun q => hne ⟨rfl, q⟩) (by omega)]
      · rw [if_neg hi, if_neg hi]
    · exact ls28 (congrFun e32 0)
  · intro i hi
    rw [e32] at hi
    obtain ⟨a1, a2, a3⟩ := E1 i hi
    unfold EnQ
    rw [g 44 (by decide), g 46 (by decide), g 47 (by decide), g2]
    exact ⟨a1, a2, fun y hy => (ej 9 _ _ (by omega)).trans (a3 y hy)⟩
  · intro i hi
    rw [e32] at hi
    exact E2 i hi
  · intro i
    obtain ⟨N, b1, b2⟩ := E3 i
    exact ⟨N, fun x hx => (ej 9 _ _ (by omega)).trans (b1 x hx), b2⟩
  · intro m hm
    rw [e48] at hm
    by_cases e : m = M
    · subst e
      unfold MsJ
      rw [g51, nnI (by omega)]
      refine ⟨⟨by rw [nnI (by omega)], by rw [nnI (by omega)]; exact c40⟩, f, earr, fun y hy => ?_⟩
      obtain ⟨x, c1, c2, c3, c4⟩ := hms y hy
      unfold MsE
      rw [g 56 (by decide), g 57 (by decide), g 58 (by decide), g2]
      exact ⟨x, c1, c2, c3, (ej 9 _ _ (by omega)).trans c4⟩
    · obtain ⟨a1, f', a2, a3⟩ := E4 m (by omega)
      unfold MsJ
      rw [g51n m e]
      refine ⟨a1, f', (ej 10 _ _ (by omega)).trans a2, fun y hy => ?_⟩
      obtain ⟨x, c1, c2, c3, c4⟩ := a3 y hy
      unfold MsE
      rw [g 56 (by decide), g 57 (by decide), g 58 (by decide), g2]
      exact ⟨x, c1, c2, c3, (ej 9 _ _ (by omega)).trans c4⟩
  · intro m hm
    rw [e48] at hm
    exact (ej 10 _ _ (by omega)).trans (E5 m (by omega))
end Snd
