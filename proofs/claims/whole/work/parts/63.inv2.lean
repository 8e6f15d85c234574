/-! the invariant over a message's making -/
theorem mvW_2 {b B M i k j : Nat} (h : k ≠ 45 ∧ k ≠ 55) : ∀ (f : Nat) (q : St × Nat), (mvW b B M i f q).1.2 k j = q.1.2 k j
  | 0, _ => rfl
  | f + 1, q => by
    rw [mvW]
    split
    · rw [mvW_2 h f]
      exact mv1_2 h
    · rfl
theorem mvW_44 {b B M i j : Nat} (h : j ≠ i) : ∀ (f : Nat) (q : St × Nat), (mvW b B M i f q).1.1 44 j = q.1.1 44 j
  | 0, _ => rfl
  | f + 1, q => by
    rw [mvW]
    split
    · rw [mvW_44 h f]
      exact mv1_n h
    · rfl
theorem BT.mv {T : St} {M i n : Nat} (c : BT T) : BT (mv1 T M i n) := by
  have hD : ∀ k, k = 47 ∨ k = 58 → ∀ j, (mvD T M i n).1 k j = 0 ∨ (mvD T M i n).1 k j = 1 := fun k hk j => by
    rw [mvD_1]
    split
    · exact c.1 _
    · rw [if_neg (by omega), if_neg (by omega)]
      rcases hk with rfl | rfl
      · exact c.1 j
      · exact c.2 j
  refine ⟨fun j => ?_, fun j => ?_⟩
  · rw [mv1_D, sh_1 rfl]
    split
    · exact hD 47 (Or.inl rfl) _
    · rw [if_neg (by omega)]
      exact hD 47 (Or.inl rfl) _
  · rw [mv1_D, sh_1 rfl, if_neg (by omega), if_neg (by omega)]
    exact hD 58 (Or.inr rfl) _
theorem BT.mw {b B M i : Nat} : ∀ (f : Nat) (q : St × Nat), BT q.1 → BT (mvW b B M i f q).1
  | 0, _, h => h
  | f + 1, q, h => by
    rw [mvW]
    split
    · exact BT.mw f _ h.mv
    · exact h
theorem fold_2 {b B M k j : Nat} (h : k ≠ 45 ∧ k ≠ 55) : ∀ (L : List Nat) (q : St × Nat), (L.foldl (tkG b B M) q).1.2 k j = q.1.2 k j
  | [], _ => rfl
  | a :: L, q => by
    show (L.foldl (tkG b B M) (tkG b B M q a)).1.2 k j = _
    rw [fold_2 h L]
    exact mvW_2 h 9 q
theorem fold_44 {b B M j : Nat} : ∀ (L : List Nat) (q : St × Nat), j ∉ L → (L.foldl (tkG b B M) q).1.1 44 j = q.1.1 44 j
  | [], _, _ => rfl
  | a :: L, q, h => by
    show (L.foldl (tkG b B M) (tkG b B M q a)).1.1 44 j = _
    rw [fold_44 L _ (fun z => h (List.mem_cons_of_mem _ z))]
    exact mvW_44 (fun e => h (by rw [e]; exact List.mem_cons_self)) 9 q
theorem fold_BT {b B M : Nat} : ∀ (L : List Nat) (q : St × Nat), BT q.1 → BT (L.foldl (tkG b B M) q).1
  | [], _, h => h
  | a :: L, q, h => fold_BT L _ (BT.mw 9 q h)
theorem tkF_2 {S : St} {b M k j : Nat} (h : k ≠ 45 ∧ k ≠ 55) : (tkF S b M).1.2 k j = S.2 k j := by
  unfold tkF
  split
  · rfl
  · exact fold_2 h _ _
theorem tkF_44 {S : St} {b M j : Nat} (h : nn (S.1 32 0) ≤ j) : (tkF S b M).1.1 44 j = S.1 44 j := by
  unfold tkF
  split
  · rfl
  · exact fold_44 _ _ (fun z => by have := (fl_mem.mp (List.mem_of_mem_take z)).1; omega)
theorem tkF_BT {S : St} {b M : Nat} (h : BT S) : BT (tkF S b M).1 := by
  unfold tkF
  split
  · exact h
  · exact fold_BT _ _ h
/-- what a made message's state G has -/
def MG (S T G : St) (b M : Nat) : Prop := (∀ k, k ≠ 48 ∧ k ≠ 49 ∧ k ≠ 50 ∧ k ≠ 53 ∧ k ≠ 24 ∧ k ≠ 70 ∧ k ≠ 51 ∧ k ≠ 52 ∧ k ≠ 54 → G.1 k = T.1 k) ∧ G.2 = T.2 ∧ G.1 48 0 = nI (M + 1) ∧ G.1 70 0 = S.1 70 0 ∧ (∀ x, x < M → G.1 49 x = S.1 49 x) ∧ G.1 49 M = nI b ∧ (∀ m, M < m → G.1 54 m = S.1 54 m) ∧ (∀ b', b' ≠ b → b' < 20 → kpI G b' = kpI S b') ∧ (kpI G b).length ≤ 5
theorem make_G {S : St} {b M : Nat} (hM : nn (S.1 48 0) = M) (hM2 : M < 2 ^ 20) (h60 : nn (S.1 32 0) ≤ 60) (h8 : ∀ j, j < 60 → sm (S.1 44 j) 8) (hb : b < 20) (h54 : S.1 54 M = 0) (hkp : kpA S (nI b) ≤ 5) : ∃ G, makeS S b = mkT G b M (nn (S.1 17 b)) ∧ MG S (tkF (gh S) b M).1 G b M := by
  have hT0 : ∀ k, k ≠ 44 ∧ k ≠ 46 ∧ k ≠ 47 ∧ k ≠ 56 ∧ k ≠ 57 ∧ k ≠ 58 → ∀ j, (tkF (gh S) b M).1.1 k j = (gh S).1 k j := fun k hk j => tkF_k hk
  have hT48 : (tkF (gh S) b M).1.1 48 0 = S.1 48 0 := hT0 48 (by decide) 0
  have hT54 : (tkF (gh S) b M).1.1 54 M = 0 := (hT0 54 (by decide) M).trans h54
  have ekp : ∀ b', kpI (msN S (tkF (gh S) b M).1 b M (tkF (gh S) b M).2) b' = kpI S b' := fun b' => (kpI_ms (by rw [hT48]; exact hM) hM2 (fun j => hT0 49 (by decide) j) hT54).trans (kpI_cg (by funext j; exact hT0 54 (by decide) j) (by funext j; exact hT0 49 (by decide) j) hT48)
  have e48 : nn ((msN S (tkF (gh S) b M).1 b M (tkF (gh S) b M).2).1 48 0) = M + 1 := by
    show nn (nI (M + 1)) = M + 1
    exact nnI (by omega)
  have n49 : (msN S (tkF (gh S) b M).1 b M (tkF (gh S) b M).2).1 49 M = nI b := by simp [msN, mx, mkA, pa_1]
  have n49x : ∀ x, x < M → (msN S (tkF (gh S) b M).1 b M (tkF (gh S) b M).2).1 49 x = S.1 49 x := fun x hx => by
    have hx2 : x ≠ M := by omega
    simp [msN, mx, mkA, pa_1, hx2]
  have n70 : (msN S (tkF (gh S) b M).1 b M (tkF (gh S) b M).2).1 70 0 = S.1 70 0 := rfl
  have n54 : ∀ m, (msN S (tkF (gh S) b M).1 b M (tkF (gh S) b M).2).1 54 m = S.1 54 m := fun m => hT0 54 (by decide) m
  have nk : ∀ k, k ≠ 48 ∧ k ≠ 49 ∧ k ≠ 50 ∧ k ≠ 53 ∧ k ≠ 24 ∧ k ≠ 70 ∧ k ≠ 51 ∧ k ≠ 52 ∧ k ≠ 54 → ∀ j, (msN S (tkF (gh S) b M).1 b M (tkF (gh S) b M).2).1 k j = (tkF (gh S) b M).1.1 k j := fun k hk j => by
    unfold msN
    rw [pa_n _ _ (by omega), pa_n _ _ (by omega)]
    exact mx_n (by omega)
  by_cases hr : rdy S (nI b)
  · refine ⟨_, make_R hM h60 h8 (by omega) hr _ rfl rfl, ?_⟩
    generalize hN : msN S (tkF (gh S) b M).1 b M (tkF (gh S) b M).2 = N at *
    have hN2 : N.2 = (tkF (gh S) b M).1.2 := by rw [← hN]; rfl
    generalize tkF (gh S) b M = q at *
    have kk : ∀ k, k ≠ 54 ∧ k ≠ 52 ∧ k ≠ 24 → ∀ j, (pa (pa (mkK (pa N 24 b (N.1 24 b + 1)) b) 54 M 1) 52 M (if rdy (pa (mkK (pa N 24 b (N.1 24 b + 1)) b) 54 M 1) (nI b) then 1 else 0)).1 k j = N.1 k j := fun k hk j => by
      rw [pa_n _ _ hk.2.1, pa_n _ _ hk.1, mkK_k hk.1, pa_n _ _ hk.2.2]
    have kpG : ∀ b', kpI (pa (pa (mkK (pa N 24 b (N.1 24 b + 1)) b) 54 M 1) 52 M (if rdy (pa (mkK (pa N 24 b (N.1 24 b + 1)) b) 54 M 1) (nI b) then 1 else 0)) b' = kpI (mkK (pa N 24 b (N.1 24 b + 1)) b) b' ++ (if nI b = nI b' then [M] else []) := fun b' => by
      show kpI (pa (mkK (pa N 24 b (N.1 24 b + 1)) b) 54 M 1) b' = _
      exact kpI_new (by rw [mkK_k (by decide)]; exact e48) (by rw [mkK_k (by decide)]; exact n49) (mkK_54 ((n54 M).trans h54))
    have ek2 : ∀ b', kpI (pa N 24 b (N.1 24 b + 1)) b' = kpI S b' := fun b' => ekp b'
    refine ⟨fun k hk => ?_, ?_, ?_, ?_, fun x hx => ?_, ?_, fun m hm => ?_, fun b' h1 h2 => ?_, ?_⟩
    · funext j
      rw [kk k (by omega)]
      exact nk k hk j
    · show (mkK _ b).2 = _
      rw [mkK_2]
      exact hN2
    · rw [kk 48 (by decide), ← hN]
      rfl
    · rw [kk 70 (by decide)]
      exact n70
    · rw [kk 49 (by decide)]
      exact n49x x hx
    · rw [kk 49 (by decide)]
      exact n49
    · rw [pa_n _ _ (by decide), pa_i _ _ (by omega)]
      unfold mkK
      split
      · rename_i h5
        have hp : 0 < (kpI (pa N 24 b (N.1 24 b + 1)) b).length := by
          rw [← kpA_len]
          rcases Nat.eq_zero_or_pos (kpA (pa N 24 b (N.1 24 b + 1)) (nI b)) with z | z
          · rw [z] at h5
            exact absurd h5 (by decide)
          · exact z
        have hlt := kpI_lt hp
        rw [fst_kp hp]
        have e48' : nn ((pa N 24 b (N.1 24 b + 1)).1 48 0) = M + 1 := e48
        rw [pa_i _ _ (by omega)]
        exact n54 m
      · exact n54 m
    · rw [kpG, if_neg (fun z => h1 (nI_inj z (by omega) (by omega)).symm), List.append_nil, kpI_K (fun z => h1 (nI_inj z (by omega) (by omega))), ek2]
    · rw [kpG, if_pos rfl, List.length_append]
      have hl : kpA (pa N 24 b (N.1 24 b + 1)) (nI b) ≤ 5 := by
        rw [kpA_len, ek2, ← kpA_len]
        exact hkp
      show (kpI (mkK (pa N 24 b (N.1 24 b + 1)) b) b).length + 1 ≤ 5
      unfold mkK
      have h5 := kp5 hl
      split
      · rename_i h
        have hp : 0 < (kpI (pa N 24 b (N.1 24 b + 1)) b).length := by
          rw [h5.2]
          rcases Nat.eq_zero_or_pos (kpA (pa N 24 b (N.1 24 b + 1)) (nI b)) with z | z
          · rw [z] at h
            exact absurd h (by decide)
          · exact z
        rw [fst_kp hp, kpI_540 hp, List.length_eraseIdx, if_pos hp, h5.2]
        omega
      · rename_i h
        rw [h5.2]
        rcases Nat.lt_or_ge (kpA (pa N 24 b (N.1 24 b + 1)) (nI b)) 5 with z | z
        · omega
        · exact absurd (by rw [show kpA (pa N 24 b (N.1 24 b + 1)) (nI b) = 5 by omega]; rfl) h
  · refine ⟨_, make_N hM h60 h8 (by omega) hr _ rfl rfl, ?_⟩
    generalize hN : msN S (tkF (gh S) b M).1 b M (tkF (gh S) b M).2 = N at *
    have hN2 : N.2 = (tkF (gh S) b M).1.2 := by rw [← hN]; rfl
    generalize tkF (gh S) b M = q at *
    refine ⟨fun k hk => ?_, hN2, ?_, n70, n49x, n49, fun m _ => n54 m, fun b' _ _ => ekp b', ?_⟩
    · funext j
      rw [pa_n _ _ (by omega)]
      exact nk k hk j
    · show N.1 48 0 = _
      rw [← hN]
      rfl
    · show (kpI N b).length ≤ 5
      rw [ekp, ← kpA_len]
      exact hkp
theorem IN.make {c B : Nat} {S : St} {b : Nat} (I : IN c B S) (hb : b < nn (S.1 15 0)) (hr : 1 ≤ nn (S.1 12 (nn (S.1 17 b)))) : IN c B (makeS S b) := by
  obtain ⟨i1, i2, i3, i4, i5, i6, i7, i8, i9, i10, i11, i12, i13⟩ := I
  obtain ⟨z1, z2, z3, z4, z5⟩ := i5
  have h20 := (ct_nn i2.2.2.2.1 (by decide)).1
  have h60 := (ct_nn i2.2.2.2.2.1 (by decide)).1
  have h512 := (ct_nn i2.2.2.2.2.2 (by decide)).1
  have h12 := (ct_nn i2.2.2.1 (by decide)).1
  have hI := i1.make (by omega) hr
  obtain ⟨G, eG, g, g2, g48, g70, g49, g49M, g54, gk, gk5⟩ := make_G (S := S) (b := b) rfl (by omega) h60 (fun j hj => (i1.2.1 j hj).1) (by omega) (z5 _ (Nat.le_refl _)) (i11 b (by omega))
  rw [eG] at hI ⊢
  have how := i4.1 b hb
  have hT : ∀ k, k ≠ 44 ∧ k ≠ 46 ∧ k ≠ 47 ∧ k ≠ 56 ∧ k ≠ 57 ∧ k ≠ 58 ∧ k ≠ 70 → (tkF (gh S) b (nn (S.1 48 0))).1.1 k = S.1 k := fun k hk => by
    funext j
    rw [tkF_k (by omega)]
    exact pa_n _ _ (by omega)
  have hT2 : ∀ k, k ≠ 45 ∧ k ≠ 55 → (tkF (gh S) b (nn (S.1 48 0))).1.2 k = S.2 k := fun k hk => by
    funext j
    exact tkF_2 hk
  have hBT := tkF_BT (S := gh S) (b := b) (M := nn (S.1 48 0)) (i8.cg rfl rfl)
  have hT44 : ∀ j, nn (S.1 32 0) ≤ j → (tkF (gh S) b (nn (S.1 48 0))).1.1 44 j = S.1 44 j := fun j hj => tkF_44 (S := gh S) hj
  generalize tkF (gh S) b (nn (S.1 48 0)) = q at *
  have kG : ∀ k, (k ≠ 48 ∧ k ≠ 49 ∧ k ≠ 50 ∧ k ≠ 53 ∧ k ≠ 24 ∧ k ≠ 70 ∧ k ≠ 51 ∧ k ≠ 52 ∧ k ≠ 54) ∧ (k ≠ 44 ∧ k ≠ 46 ∧ k ≠ 47 ∧ k ≠ 56 ∧ k ≠ 57 ∧ k ≠ 58) → G.1 k = S.1 k := fun k hk => by rw [g k hk.1, hT k (by omega)]
  have kF : ∀ k, (k ≠ 48 ∧ k ≠ 49 ∧ k ≠ 50 ∧ k ≠ 53 ∧ k ≠ 24 ∧ k ≠ 70 ∧ k ≠ 51 ∧ k ≠ 52 ∧ k ≠ 54) ∧ (k ≠ 44 ∧ k ≠ 46 ∧ k ≠ 47 ∧ k ≠ 56 ∧ k ≠ 57 ∧ k ≠ 58) ∧ k ≠ 31 ∧ k ≠ 14 ∧ k ≠ 13 ∧ k ≠ 12 ∧ k ≠ 27 ∧ k ≠ 25 ∧ k ≠ 26 ∧ k ≠ 28 → (mkT G b (nn (S.1 48 0)) (nn (S.1 17 b))).1 k = S.1 k := fun k hk => by
    rw [← kG k ⟨hk.1, hk.2.1⟩]
    funext j
    exact mkT_k hk.2.2
  have k0 : ∀ k, (k ≠ 48 ∧ k ≠ 49 ∧ k ≠ 50 ∧ k ≠ 53 ∧ k ≠ 24 ∧ k ≠ 70 ∧ k ≠ 51 ∧ k ≠ 52 ∧ k ≠ 54) ∧ (k ≠ 44 ∧ k ≠ 46 ∧ k ≠ 47 ∧ k ≠ 56 ∧ k ≠ 57 ∧ k ≠ 58) ∧ k ≠ 31 ∧ k ≠ 14 ∧ k ≠ 13 ∧ k ≠ 12 ∧ k ≠ 27 ∧ k ≠ 25 ∧ k ≠ 26 ∧ k ≠ 28 → (mkT G b (nn (S.1 48 0)) (nn (S.1 17 b))).1 k 0 = S.1 k 0 := fun k hk => congrFun (kF k hk) 0
  have k2 : ∀ k, k ≠ 45 ∧ k ≠ 55 → (mkT G b (nn (S.1 48 0)) (nn (S.1 17 b))).2 k = S.2 k := fun k hk => by
    rw [mkT_2, g2]
    exact hT2 k hk
  have e48 : (mkT G b (nn (S.1 48 0)) (nn (S.1 17 b))).1 48 0 = nI (nn (S.1 48 0) + 1) := (mkT_k (by decide)).trans g48
  have e48n : nn ((mkT G b (nn (S.1 48 0)) (nn (S.1 17 b))).1 48 0) = nn (S.1 48 0) + 1 := by rw [e48]; exact nnI (by omega)
  have e49 : ∀ x, (mkT G b (nn (S.1 48 0)) (nn (S.1 17 b))).1 49 x = G.1 49 x := fun x => mkT_k (by decide)
  have e54 : ∀ x, (mkT G b (nn (S.1 48 0)) (nn (S.1 17 b))).1 54 x = G.1 54 x := fun x => mkT_k (by decide)
  have hs13 := i7 _ how.2
  have hs512 := (hI.2.2.2.1 (nn (S.1 17 b)) (by omega)).2
  have G13 : ∀ s, G.1 13 s = S.1 13 s := fun s => congrFun (kG 13 (by decide)) s
  have G14 : ∀ s, G.1 14 s = S.1 14 s := fun s => congrFun (kG 14 (by decide)) s
  have ekF : ∀ b', kpI (mkT G b (nn (S.1 48 0)) (nn (S.1 17 b))) b' = kpI G b' := fun b' => kpI_cg (by funext j; exact e54 j) (by funext j; exact e49 j) (mkT_k (by decide))
  refine ⟨hI, ⟨ct_of (k0 1 (by decide)) i2.1, ct_of (k0 4 (by decide)) i2.2.1, hI.1.1, hI.1.2.1, hI.1.2.2.1, hI.1.2.2.2⟩, i3.cg (k0 1 (by decide)) (kF 2 (by decide)), i4.cg (k0 1 (by decide)) (k0 8 (by decide)) (k0 15 (by decide)) (k0 32 (by decide)) (kF 17 (by decide)) (kF 34 (by decide)) (kF 35 (by decide)), ⟨?_, ?_, ?_, ?_, ?_⟩, ?_, ?_, ?_, i9.cg (k0 4 (by decide)) (kF 7 (by decide)), i10.cg (k0 32 (by decide)) (kF 40 (by decide)) (kF 42 (by decide)) (k2 41 (by decide)), ?_, ?_, ?_⟩
  · rw [k0 1 (by decide), k2 3 (by decide)]
    exact z1
  · rw [k0 8 (by decide)]
    intro s hs
    rw [mkT_12, mkT_13, if_neg (by omega), if_neg (by omega), G13, congrFun (kG 12 (by decide)) s]
    exact z2 s hs
  · rw [k0 15 (by decide), kF 29 (by decide)]
    intro x hx
    have hne : x ≠ b := by omega
    have f27 : (mkT G b (nn (S.1 48 0)) (nn (S.1 17 b))).1 27 x = S.1 27 x := by
      rw [← congrFun (kG 27 (by decide)) x]
      simp [mkT, mailN, pa_1, hne]
    have f28 : (mkT G b (nn (S.1 48 0)) (nn (S.1 17 b))).1 28 x = S.1 28 x := by
      rw [← congrFun (kG 28 (by decide)) x]
      simp [mkT, mailN, pa_1, hne]
    have f31 : (mkT G b (nn (S.1 48 0)) (nn (S.1 17 b))).1 31 x = S.1 31 x := by
      rw [← congrFun (kG 31 (by decide)) x]
      simp [mkT, mailN, pa_1, hne]
    rw [f27, f28, f31]
    exact z3 x hx
  · rw [k0 32 (by decide), kF 33 (by decide), kF 42 (by decide), k2 43 (by decide)]
    intro x hx
    rw [mkT_k (by decide), g 44 (by decide), hT44 x hx]
    exact z4 x hx
  · rw [e48n]
    intro m hm
    rw [e54, g54 m (by omega)]
    exact z5 m (by omega)
  · intro m hm
    rw [e48n] at hm
    rw [e49, k0 15 (by decide)]
    by_cases e : m = nn (S.1 48 0)
    · rw [e, g49M, nnI (by omega)]
      exact ⟨⟨by rw [nnI (by omega)], by rw [nnI (by omega)]; omega⟩, hb⟩
    · rw [g49 m (by omega)]
      exact i6 m (by omega)
  · intro s hs
    rw [k0 8 (by decide)] at hs
    refine ⟨(hI.2.2.2.1 s (by omega)).2, fun j hj => ?_⟩
    rw [e48n, mkT_14, G13, G14]
    rw [mkT_13, G13] at hj
    have h5 := ((i7 s hs).1).2
    by_cases e : s = nn (S.1 17 b)
    · rw [if_pos e] at hj
      have hinc := sm_inc hs13.1 (by decide)
      rw [hinc.2] at hj
      by_cases e2 : j = nn (S.1 13 (nn (S.1 17 b)))
      · rw [if_pos (by rw [e, e2]), nnI (by omega)]
        exact ⟨⟨by rw [nnI (by omega)], by rw [nnI (by omega)]; have := (ct_nn hI.1.2.2.2 (by decide)).1; rw [e48n] at this; omega⟩, by omega⟩
      · rw [if_neg (by rw [e]; omega), e]
        have := hs13.2 j (by omega)
        exact ⟨this.1, by omega⟩
    · rw [if_neg e, G13] at hj
      have h6 := hs13.1.2
      rw [if_neg (by omega)]
      have := (i7 s hs).2 j hj
      exact ⟨this.1, by omega⟩
  · refine ⟨fun j => ?_, fun j => ?_⟩
    · rw [mkT_k (by decide), g 47 (by decide)]
      exact hBT.1 j
    · rw [mkT_k (by decide), g 58 (by decide)]
      exact hBT.2 j
  · intro x hx
    rw [kpA_len, ekF]
    by_cases e : x = b
    · rw [e]
      exact gk5
    · rw [gk x e hx, ← kpA_len]
      exact i11 x hx
  · refine ⟨by rw [k0 30 (by decide)]; exact i12.1, fun x hx => ?_⟩
    rw [kF 29 (by decide)]
    refine ⟨fun h => ?_, (i12.2 x hx).2⟩
    by_cases e : x = b
    · refine absurd ?_ h
      rw [e]
      simp [mkT, mailN, pa_1]
    · refine (i12.2 x hx).1 (fun z => h ?_)
      rw [← z, ← congrFun (kG 28 (by decide)) x]
      simp [mkT, mailN, pa_1, e]
  · rw [mkT_k (by decide), g70]
    exact i13
