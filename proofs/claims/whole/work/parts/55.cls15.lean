/-! entries leave a queue for a message -/
theorem fr_hu {J J' : aH} {k i k' i' g' : Nat} {o : aO} (F : Fr k i (hu J (kd k' i' g') o) J') (h1 : k' ≠ k) (h2 : k' ≠ k + 1) (h3 : k' ≠ 0) : ∃ J1, J' = hu J1 (kd k' i' g') o ∧ Fr k i J J1 ∧ ∀ L, LL J' k i L → LL J1 k i L := by
  refine ⟨fun α => if α = kd k' i' g' then J α else J' α, ?_, ?_, ?_⟩
  · funext α
    by_cases e : α = kd k' i' g'
    · rw [e, hu_s, F _ (kd_nk h1) (fun _ => kd_nk h2), hu_s]
    · rw [hu_n e]
      exact (if_neg e).symm
  · intro α a b
    show (if α = kd k' i' g' then J α else J' α) = J α
    by_cases e : α = kd k' i' g'
    · rw [if_pos e]
    · rw [if_neg e, F α a b, hu_n e]
  · intro L h
    exact h.off (if_neg (kd_nk (Ne.symm h1))) (fun g => if_neg (kd_nk (Ne.symm h2))) (if_neg (kd_nk (Ne.symm h3)))
def mvD (T : St) (M i n : Nat) : St := pa (pa (pa (pb T 55 (40 * M + n) (T.2 45 (8 * i))) 56 (40 * M + n) (nI i)) 57 (40 * M + n) (T.1 46 (8 * i))) 58 (40 * M + n) (T.1 47 (8 * i))
theorem mv1_D {T : St} {M i n : Nat} : mv1 T M i n = shiftS (mvD T M i n) i := rfl
theorem mvD_1 {T : St} {M i n k j : Nat} : (mvD T M i n).1 k j = if k = 58 ∧ j = 40 * M + n then T.1 47 (8 * i) else if k = 57 ∧ j = 40 * M + n then T.1 46 (8 * i) else if k = 56 ∧ j = 40 * M + n then nI i else T.1 k j := rfl
theorem mvD_2 {T : St} {M i n k j : Nat} : (mvD T M i n).2 k j = if k = 55 ∧ j = 40 * M + n then T.2 45 (8 * i) else T.2 k j := rfl
theorem sh_1 {D : St} {i q k j : Nat} (hq : nn (D.1 44 i - 1) = q) : (shiftS D i).1 k j = if (k = 46 ∨ k = 47) ∧ 8 * i ≤ j ∧ j < 8 * i + q then D.1 k (j + 1) else if k = 44 ∧ j = i then D.1 44 i - 1 else D.1 k j := by
  unfold shiftS
  dsimp only
  rw [pa_s, hq]
  show (if (k = 46 ∨ k = 47) ∧ 8 * i ≤ j ∧ j < 8 * i + q then (pa D 44 i _).1 k (j + 1) else (pa D 44 i _).1 k j) = _
  by_cases h : (k = 46 ∨ k = 47) ∧ 8 * i ≤ j ∧ j < 8 * i + q
  · rw [if_pos h, if_pos h]
    exact pa_n _ _ (by omega)
  · rw [if_neg h, if_neg h, pa_1]
theorem sh_2 {D : St} {i q k j : Nat} (hq : nn (D.1 44 i - 1) = q) : (shiftS D i).2 k j = if k = 45 ∧ 8 * i ≤ j ∧ j < 8 * i + q then D.2 k (j + 1) else D.2 k j := by
  unfold shiftS
  dsimp only
  rw [pa_s, hq]
  rfl
section Mv
variable {T : St} {Q : Nat → List Nat} {J J1 : aH} {i n M : Nat}
theorem mv_1 (h8 : sm (T.1 44 i) 8) (h1 : 1 ≤ nn (T.1 44 i)) (k j : Nat) : (mv1 T M i n).1 k j = if (k = 46 ∨ k = 47) ∧ 8 * i ≤ j ∧ j < 8 * i + (nn (T.1 44 i) - 1) then T.1 k (j + 1) else if k = 44 ∧ j = i then T.1 44 i - 1 else (mvD T M i n).1 k j := by
  rw [mv1_D, sh_1 (D := mvD T M i n) (q := nn (T.1 44 i) - 1) (sm_dec h8 h1 (by decide)).2.2]
  by_cases h : (k = 46 ∨ k = 47) ∧ 8 * i ≤ j ∧ j < 8 * i + (nn (T.1 44 i) - 1)
  · rw [if_pos h, if_pos h, mvD_1, if_neg (by omega), if_neg (by omega), if_neg (by omega)]
  · rw [if_neg h, if_neg h]
    rfl
theorem mv_2 (h8 : sm (T.1 44 i) 8) (h1 : 1 ≤ nn (T.1 44 i)) (k j : Nat) : (mv1 T M i n).2 k j = if k = 45 ∧ 8 * i ≤ j ∧ j < 8 * i + (nn (T.1 44 i) - 1) then T.2 k (j + 1) else (mvD T M i n).2 k j := by
  rw [mv1_D, sh_2 (D := mvD T M i n) (q := nn (T.1 44 i) - 1) (sm_dec h8 h1 (by decide)).2.2]
  by_cases h : k = 45 ∧ 8 * i ≤ j ∧ j < 8 * i + (nn (T.1 44 i) - 1)
  · rw [if_pos h, if_pos h, mvD_2, if_neg (by omega)]
  · rw [if_neg h, if_neg h]
theorem mv_f {k : Nat} (h : k ≠ 44 ∧ k ≠ 46 ∧ k ≠ 47 ∧ k ≠ 56 ∧ k ≠ 57 ∧ k ≠ 58) : (mv1 T M i n).1 k = T.1 k := by
  funext j
  exact mv1_k h
theorem gd_not {L : List Nat} (h : L.Nodup) (h1 : 1 ≤ L.length) : L.getD 0 0 ∉ L.eraseIdx 0 := by
  cases L with
  | nil => exact absurd h1 (by decide)
  | cons a L => exact (List.nodup_cons.mp h).1
theorem RJ.mv (R : RJ T Q J) (hi : i < nn (T.1 32 0)) (hq8 : ∀ j, j < nn (T.1 32 0) → sm (T.1 44 j) 8) (h1 : 1 ≤ nn (T.1 44 i)) (hM : nn (T.1 48 0) ≤ M) (F : Fr 28 i J J1) (L1 : LL J1 28 i ((quL Q i).eraseIdx 0)) : RJ (mv1 T M i n) (uQ Q i ((Q i).eraseIdx 0)) J1 := by
  have h8 := hq8 i hi
  have h82 := h8.2
  have hd := sm_dec h8 h1 (by decide)
  obtain ⟨E1, E2, E3, E4, E5, E6⟩ := R.2.fr (k := 28) rfl F
  have hsub : ∀ g ∈ (Q i).eraseIdx 0, g ∈ Q i := fun g hg => List.mem_of_mem_eraseIdx hg
  refine ⟨(R.1.upd (k := 28) rfl F L1).to (lsT ?_ ?_), ?_, ?_, ?_, ?_, ?_, E6⟩
  · show (if i < nn ((mv1 T M i n).1 32 0) then some (quL (uQ Q i ((Q i).eraseIdx 0)) i) else none) = _
    rw [mv1_k (by decide), if_pos hi]
    unfold quL
    rw [uQ_s, map_ei]
  · intro k j hk hne
    rcases lk_c hk with rfl | rfl | rfl | rfl | rfl
    · exact ls20r (mv1_k (by decide)) (mv1_k (by decide)) (mv1_k (by decide)) (mv1_k (by decide)) (mv1_k (by decide)) (mv1_k (by decide))
    · exact ls22 (mv1_k (by decide)) (mv_f (by decide)) (mv_f (by decide))
    · exact ls24 (mv1_k (by decide)) (mv1_k (by decide)) (mv_f (by decide)) (mv_f (by decide))
    · exact ls26 (mv1_k (by decide)) (mv1_k (by decide)) (mv_f (by decide)) (mv_f (by decide))
    · show (if j < nn ((mv1 T M i n).1 32 0) then some (quL (uQ Q i ((Q i).eraseIdx 0)) j) else none) = (if j < nn (T.1 32 0) then some (quL Q j) else none)
      rw [mv1_k (by decide)]
      unfold quL
      rw [uQ_n (fun z => hne ⟨rfl, z⟩)]
  · intro j hj
    rw [mv1_k (by decide)] at hj
    obtain ⟨a1, a2, a3⟩ := E1 j hj
    by_cases e : j = i
    · subst e
      unfold EnQ
      rw [uQ_s, mv1_q, hd.2.2]
      refine ⟨a1.sublist (List.eraseIdx_sublist _ _), by rw [List.length_eraseIdx, if_pos (by omega), a2], fun y hy => ?_⟩
      rw [mv_1 h8 h1, mv_1 h8 h1, mv_2 h8 h1, if_pos (by omega), if_pos (by omega), if_pos (by omega), getD_ei]
      exact a3 (y + 1) (by omega)
    · have h8j := (hq8 j hj).2
      unfold EnQ
      rw [uQ_n e, mv1_n e]
      refine ⟨a1, a2, fun y hy => ?_⟩
      rw [mv_1 h8 h1, mv_1 h8 h1, mv_2 h8 h1, if_neg (by omega), if_neg (by omega), if_neg (by omega), if_neg (by omega), if_neg (by omega), mvD_1, mvD_1, mvD_2, if_neg (by omega), if_neg (by omega), if_neg (by omega), if_neg (by omega), if_neg (by omega), if_neg (by omega), if_neg (by omega)]
      exact a3 y hy
  · intro j hj
    rw [mv1_k (by decide)] at hj
    rw [uQ_n (by omega)]
    exact E2 j hj
  · intro j
    obtain ⟨N, b1, b2⟩ := E3 j
    refine ⟨N, b1, ?_⟩
    by_cases e : j = i
    · rw [e, uQ_s]
      exact fun g hg => b2 g (by rw [e]; exact hsub g hg)
    · rw [uQ_n e]
      exact b2
  · intro m hm
    rw [mv1_k (by decide)] at hm
    obtain ⟨a, f, b, c⟩ := E4 m hm
    have ha := a.2
    unfold MsJ
    rw [mv1_k (k := 51) (by decide)]
    refine ⟨a, f, b, fun y hy => ?_⟩
    obtain ⟨g, c1, c2, c3, c4⟩ := c y hy
    have hne : ¬ 40 * m + y = 40 * M + n := by omega
    have g1 : (mv1 T M i n).1 56 (40 * m + y) = T.1 56 (40 * m + y) := by rw [mv_1 h8 h1, if_neg (by omega), if_neg (by omega), mvD_1, if_neg (by omega), if_neg (by omega), if_neg (by omega)]
    have g2 : (mv1 T M i n).1 57 (40 * m + y) = T.1 57 (40 * m + y) := by rw [mv_1 h8 h1, if_neg (by omega), if_neg (by omega), mvD_1, if_neg (by omega), if_neg (by omega), if_neg (by omega)]
    have g3 : (mv1 T M i n).1 58 (40 * m + y) = T.1 58 (40 * m + y) := by rw [mv_1 h8 h1, if_neg (by omega), if_neg (by omega), mvD_1, if_neg (by omega), if_neg (by omega), if_neg (by omega)]
    have g4 : (mv1 T M i n).2 55 (40 * m + y) = T.2 55 (40 * m + y) := by rw [mv_2 h8 h1, if_neg (by omega), mvD_2, if_neg (by omega)]
    unfold MsE
    rw [g1, g2, g3, g4]
    refine ⟨g, c1, ?_, c3, c4⟩
    by_cases e : nn (T.1 56 (40 * m + y)) = i
    · rw [e, uQ_s]
      exact fun z => c2 (by rw [e]; exact hsub g z)
    · rw [uQ_n e]
      exact c2
  · intro m hm
    rw [mv1_k (by decide)] at hm
    exact E5 m hm
theorem MsE.mv (f : Nat → Option Nat) (h8 : sm (T.1 44 i) 8) (h1 : 1 ≤ nn (T.1 44 i)) (hi : i < 2 ^ 31) (a : EnQ T Q J i) (F : Fr 28 i J J1) : MsE (mv1 T M i n) (uQ Q i ((Q i).eraseIdx 0)) J1 (va_up f n (some (kd 9 i ((Q i).getD 0 0)))) (40 * M + n) n := by
  have g1 : (mv1 T M i n).1 56 (40 * M + n) = nI i := by rw [mv_1 h8 h1, if_neg (by omega), if_neg (by omega), mvD_1, if_neg (by omega), if_neg (by omega), if_pos ⟨rfl, rfl⟩]
  have g2 : (mv1 T M i n).1 57 (40 * M + n) = T.1 46 (8 * i) := by rw [mv_1 h8 h1, if_neg (by omega), if_neg (by omega), mvD_1, if_neg (by omega), if_pos ⟨rfl, rfl⟩]
  have g3 : (mv1 T M i n).1 58 (40 * M + n) = T.1 47 (8 * i) := by rw [mv_1 h8 h1, if_neg (by omega), if_neg (by omega), mvD_1, if_pos ⟨rfl, rfl⟩]
  have g4 : (mv1 T M i n).2 55 (40 * M + n) = T.2 45 (8 * i) := by rw [mv_2 h8 h1, if_neg (by omega), mvD_2, if_pos ⟨rfl, rfl⟩]
  unfold MsE
  rw [g1, g2, g3, g4, nnI hi, uQ_s]
  refine ⟨(Q i).getD 0 0, ?_, gd_not a.1 (by have := a.2.1; omega), rfl, ?_⟩
  · show (if n = n then some _ else f n) = _
    rw [if_pos rfl]
  · exact (F.k (by decide) (by decide)).trans (a.2.2 0 (by omega))
theorem MsE.keep {f : Nat → Option Nat} {v : Option Nat} {x : Nat} (hx : x < n) (h8 : sm (T.1 44 i) 8) (h1 : 1 ≤ nn (T.1 44 i)) (F : Fr 28 i J J1) (h : MsE T Q J f (40 * M + x) x) : MsE (mv1 T M i n) (uQ Q i ((Q i).eraseIdx 0)) J1 (va_up f n v) (40 * M + x) x := by
  obtain ⟨g, c1, c2, c3, c4⟩ := h
  have hne : ¬ 40 * M + x = 40 * M + n := by omega
  have g1 : (mv1 T M i n).1 56 (40 * M + x) = T.1 56 (40 * M + x) := by rw [mv_1 h8 h1, if_neg (by omega), if_neg (by omega), mvD_1, if_neg (by omega), if_neg (by omega), if_neg (by omega)]
  have g2 : (mv1 T M i n).1 57 (40 * M + x) = T.1 57 (40 * M + x) := by rw [mv_1 h8 h1, if_neg (by omega), if_neg (by omega), mvD_1, if_neg (by omega), if_neg (by omega), if_neg (by omega)]
  have g3 : (mv1 T M i n).1 58 (40 * M + x) = T.1 58 (40 * M + x) := by rw [mv_1 h8 h1, if_neg (by omega), if_neg (by omega), mvD_1, if_neg (by omega), if_neg (by omega), if_neg (by omega)]
  have g4 : (mv1 T M i n).2 55 (40 * M + x) = T.2 55 (40 * M + x) := by rw [mv_2 h8 h1, if_neg (by omega), mvD_2, if_neg (by omega)]
  unfold MsE
  rw [g1, g2, g3, g4]
  refine ⟨g, ?_, ?_, c3, (F.k (by decide) (by decide)).trans c4⟩
  · show (if x = n then v else f x) = _
    rw [if_neg (by omega)]
    exact c1
  · by_cases e : nn (T.1 56 (40 * M + x)) = i
    · rw [e, uQ_s]
      exact fun z => c2 (by rw [e]; exact List.mem_of_mem_eraseIdx z)
    · rw [uQ_n e]
      exact c2
theorem mv1_2 {k j : Nat} (h : k ≠ 45 ∧ k ≠ 55) : (mv1 T M i n).2 k j = T.2 k j := by
  rw [mv1_D]
  unfold shiftS
  dsimp only
  show (if k = 45 ∧ _ then _ else (mvD T M i n).2 k j) = _
  rw [if_neg (fun q => h.1 q.1), mvD_2, if_neg (fun q => h.2 q.1)]
theorem mv_ovc : ovc T J = ovc (mv1 T M i n) J := by
  refine ovc_ext fun k j hk => ?_
  symm
  rcases kO_c hk with rfl | rfl | rfl | rfl | rfl | rfl | rfl | rfl | rfl
  · exact oc1 (mv1_k (k := 0) (by decide)) (mv1_2 (k := 59) (by decide)) (mv1_k (k := 60) (by decide)) (mv1_k (k := 30) (by decide))
  · exact oc2 (mv1_k (k := 1) (by decide)) (mv1_k (k := 2) (by decide)) (mv1_2 (k := 3) (by decide))
  · exact oc3 (mv1_k (k := 4) (by decide)) (mv1_k (k := 5) (by decide)) (mv1_k (k := 6) (by decide)) (mv1_k (k := 7) (by decide))
  · exact oc4 (mv1_k (k := 8) (by decide)) (mv1_k (k := 9) (by decide)) (mv1_k (k := 11) (by decide)) (mv1_k (k := 10) (by decide)) (mv1_k (k := 12) (by decide))
  · exact oc5 (mv1_k (k := 15) (by decide)) (mv1_k (k := 17) (by decide)) (mv1_k (k := 18) (by decide)) (mv1_k (k := 19) (by decide)) (mv1_k (k := 20) (by decide)) (mv1_k (k := 21) (by decide)) (mv1_k (k := 22) (by decide)) (mv1_k (k := 23) (by decide)) (mv1_k (k := 24) (by decide)) (mv1_k (k := 25) (by decide)) (mv1_k (k := 26) (by decide)) (mv1_k (k := 27) (by decide)) (mv1_k (k := 31) (by decide)) (mv1_k (k := 28) (by decide)) (mv1_k (k := 29) (by decide)) (mv1_k (k := 16) (by decide))
  · exact oc6 (mv1_k (k := 32) (by decide)) (mv1_k (k := 34) (by decide)) (mv1_k (k := 35) (by decide)) (mv1_k (k := 36) (by decide)) (mv1_k (k := 37) (by decide)) (mv1_2 (k := 41) (by decide)) (mv1_k (k := 40) (by decide)) (mv1_k (k := 42) (by decide)) (mv1_2 (k := 43) (by decide)) (mv1_k (k := 33) (by decide))
  · exact oc7 (mv1_k (k := 32) (by decide)) (mv1_k (k := 38) (by decide)) (mv1_k (k := 39) (by decide))
  · exact oc8 (mv1_k (k := 48) (by decide)) (mv1_k (k := 49) (by decide)) (mv1_k (k := 50) (by decide)) (mv1_k (k := 53) (by decide)) (mv1_k (k := 52) (by decide)) (mv1_k (k := 54) (by decide)) (mv1_k (k := 70) (by decide))
  · exact oc11 (mv_f (by decide))
end Mv
/-! how often: the class's count and the reference's loop -/
def mvE (M i : Nat) : Nat → St × Nat → St × Nat
  | 0, q => q
  | k + 1, q => (mv1 (mvE M i k q).1 M i (mvE M i k q).2, (mvE M i k q).2 + 1)
theorem mvE_n {M i : Nat} {q : St × Nat} : ∀ k, (mvE M i k q).2 = q.2 + k
  | 0 => rfl
  | k + 1 => by
    show (mvE M i k q).2 + 1 = _
    rw [mvE_n k]
    omega
theorem mvE_k {M i f j : Nat} {q : St × Nat} (h : f ≠ 44 ∧ f ≠ 46 ∧ f ≠ 47 ∧ f ≠ 56 ∧ f ≠ 57 ∧ f ≠ 58) : ∀ k, (mvE M i k q).1.1 f j = q.1.1 f j
  | 0 => rfl
  | k + 1 => (mv1_k h).trans (mvE_k h k)
theorem mvE_o {M i j : Nat} {q : St × Nat} (h : j ≠ i) : ∀ k, (mvE M i k q).1.1 44 j = q.1.1 44 j
  | 0 => rfl
  | k + 1 => (mv1_n h).trans (mvE_o h k)
theorem mvE_q {M i : Nat} {q : St × Nat} (h8 : sm (q.1.1 44 i) 8) : ∀ k, k ≤ nn (q.1.1 44 i) → sm ((mvE M i k q).1.1 44 i) 8 ∧ nn ((mvE M i k q).1.1 44 i) = nn (q.1.1 44 i) - k
  | 0, _ => ⟨h8, rfl⟩
  | k + 1, h => by
    obtain ⟨a, b⟩ := mvE_q h8 k (by omega)
    have hd := sm_dec a (by omega) (by decide)
    show sm ((mv1 _ M i _).1 44 i) 8 ∧ nn ((mv1 _ M i _).1 44 i) = _
    rw [mv1_q]
    exact ⟨hd.2.1, by rw [hd.2.2, b]; omega⟩
theorem mvE_front {M i : Nat} {q : St × Nat} : ∀ k, mvE M i (k + 1) q = mvE M i k (mv1 q.1 M i q.2, q.2 + 1)
  | 0 => rfl
  | k + 1 => by
    show (mv1 (mvE M i (k + 1) q).1 M i (mvE M i (k + 1) q).2, (mvE M i (k + 1) q).2 + 1) = _
    rw [mvE_front k]
    rfl
abbrev itC (T : St) (b i : Nat) : Prop := siP T (nI b) i ∧ T.1 40 i = 2
def mvK (T : St) (b B i n : Nat) : Nat := if itC T b i then min (nn (T.1 44 i)) (B - n) else 0
theorem itP_iff {T : St} {b i : Nat} (h8 : sm (T.1 44 i) 8) : itP T (nI b) i ↔ itC T b i ∧ 1 ≤ nn (T.1 44 i) := by
  constructor
  · rintro ⟨a1, a2, a3, a4⟩
    exact ⟨⟨⟨a1, a2⟩, a3⟩, sm_pos h8 a4 (by decide)⟩
  · rintro ⟨⟨⟨a1, a2⟩, a3⟩, a4⟩
    refine ⟨a1, a2, a3, fun z => ?_⟩
    rw [h8.1, nI_pos0 (by have := h8.2; omega)] at z
    exact z a4
theorem mvW_E {b B M i : Nat} : ∀ (f : Nat) (T : St) (n : Nat), nn (T.1 44 i) < f → sm (T.1 44 i) 8 → mvW b B M i f (T, n) = mvE M i (mvK T b B i n) (T, n)
  | 0, _, _, h, _ => absurd h (Nat.not_lt_zero _)
  | f + 1, T, n, h, h8 => by
    rw [mvW]
    dsimp only
    by_cases hc : itC T b i
    · by_cases h1 : 1 ≤ nn (T.1 44 i)
      · by_cases hB : n < B
        · rw [if_pos ⟨(itP_iff h8).mpr ⟨hc, h1⟩, hB⟩]
          have hd := sm_dec h8 h1 (by decide)
          have e44 : (mv1 T M i n).1 44 i = T.1 44 i - 1 := mv1_q
          have hc' : itC (mv1 T M i n) b i := by
            unfold itC siP
            rw [mv1_k (k := 33) (by decide), mv1_k (k := 34) (by decide), mv1_k (k := 40) (by decide)]
            exact hc
          rw [mvW_E f (mv1 T M i n) (n + 1) (by rw [e44, hd.2.2]; omega) (by rw [e44]; exact hd.2.1)]
          have ek : mvK T b B i n = mvK (mv1 T M i n) b B i (n + 1) + 1 := by
            unfold mvK
            rw [if_pos hc, if_pos hc', e44, hd.2.2]
            omega
          rw [ek, mvE_front]
        · rw [if_neg (fun q => hB q.2)]
          have ek : mvK T b B i n = 0 := by
            unfold mvK
            rw [if_pos hc]
            omega
          rw [ek]
          rfl
      · rw [if_neg (fun q => h1 ((itP_iff h8).mp q.1).2)]
        have ek : mvK T b B i n = 0 := by
          unfold mvK
          rw [if_pos hc]
          omega
        rw [ek]
        rfl
    · rw [if_neg (fun q => hc ((itP_iff h8).mp q.1).1)]
      have ek : mvK T b B i n = 0 := if_neg hc
      rw [ek]
      rfl
def tkG (b B M : Nat) (q : St × Nat) (i : Nat) : St × Nat := mvW b B M i 9 q
theorem tkG_E {b B M i : Nat} {q : St × Nat} (h8 : sm (q.1.1 44 i) 8) : tkG b B M q i = mvE M i (mvK q.1 b B i q.2) q := by
  unfold tkG
  have := mvW_E (b := b) (B := B) (M := M) (i := i) 9 q.1 q.2 (by have := h8.2; omega) h8
  exact this
/-- the reference's loop over all items is the loop over the subscription's own -/
theorem lpq_fl {b B M : Nat} {q : St × Nat} {p : Nat → Bool} (h8 : ∀ j, j < 60 → sm (q.1.1 44 j) 8) (hp : ∀ j, p j = siB q.1 (nI b) j) : ∀ n, n ≤ 60 → lpq (fun i q => mvW b B M i 9 q) n q = (fl p n).foldl (tkG b B M) q
  | 0, _ => rfl
  | n + 1, hn => by
    have ih := lpq_fl (b := b) (B := B) (M := M) h8 hp n (by omega)
    have hq := lpm_q (b := b) (B := B) (M := M) n q h8
    rw [lpq, fl_s, List.foldl_append, ← ih]
    generalize hr : lpq (fun i q => mvW b B M i 9 q) n q = r at hq
    have e33 : r.1.1 33 n = q.1.1 33 n := by rw [← hr]; exact lpm_k (by decide) n q
    have e34 : r.1.1 34 n = q.1.1 34 n := by rw [← hr]; exact lpm_k (by decide) n q
    by_cases c : p n = true
    · rw [if_pos c]
      rfl
    · rw [if_neg c]
      show mvW b B M n 9 r = r
      have : tkG b B M r n = r := by
        rw [tkG_E (hq n (by omega)).1]
        have ek : mvK r.1 b B n r.2 = 0 := if_neg (fun z => c (by
          rw [hp]
          refine siB_iff.mpr ?_
          have := z.1
          unfold siP at this ⊢
          rw [e33, e34] at this
          exact this))
        rw [ek]
        rfl
      exact this
