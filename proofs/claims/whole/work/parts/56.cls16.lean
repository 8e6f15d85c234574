/-! takeEntries -/
def tkY (S : St) (b B M y : Nat) : St × Nat := ((itI S b).take y).foldl (tkG b B M) (S, 0)
theorem tkY_s {S : St} {b B M y : Nat} (h : y < (itI S b).length) : tkY S b B M (y + 1) = tkG b B M (tkY S b B M y) ((itI S b).getD y 0) := by
  unfold tkY
  rw [take_s h, List.foldl_append]
  rfl
theorem tkG_k {b B M i f j : Nat} {q : St × Nat} (h : f ≠ 44 ∧ f ≠ 46 ∧ f ≠ 47 ∧ f ≠ 56 ∧ f ≠ 57 ∧ f ≠ 58) : (tkG b B M q i).1.1 f j = q.1.1 f j := mvW_k h 9 q
theorem tkY_k {S : St} {b B M f j : Nat} (h : f ≠ 44 ∧ f ≠ 46 ∧ f ≠ 47 ∧ f ≠ 56 ∧ f ≠ 57 ∧ f ≠ 58) : ∀ y, y ≤ (itI S b).length → (tkY S b B M y).1.1 f j = S.1 f j
  | 0, _ => rfl
  | y + 1, hy => by
    rw [tkY_s (by omega), tkG_k h]
    exact tkY_k h y (by omega)
theorem tkY_q {S : St} {b B M : Nat} (h8 : ∀ j, j < 60 → sm (S.1 44 j) 8) : ∀ y, y ≤ (itI S b).length → ∀ j, j < 60 → sm ((tkY S b B M y).1.1 44 j) 8
  | 0, _ => h8
  | y + 1, hy => fun j hj => by
    rw [tkY_s (by omega)]
    exact (mvW_q (b := b) (B := B) (M := M) 9 _ (tkY_q h8 y (by omega)) j hj).1
theorem tkY_B {S : St} {b B M : Nat} : ∀ y, y ≤ (itI S b).length → (tkY S b B M y).2 ≤ B
  | 0, _ => Nat.zero_le _
  | y + 1, hy => by
    rw [tkY_s (by omega)]
    exact mvW_n 9 _ (tkY_B y (by omega))
def EnL (L : List Nat) (T : St) : Nat := sumN (fun j => qc T (L.getD j 0)) L.length
theorem itI_60 {S : St} {b y : Nat} (h60 : nn (S.1 32 0) ≤ 60) (hy : y < (itI S b).length) : (itI S b).getD y 0 < 60 := by
  have := itI_lt hy
  omega
theorem mvE_qc {M i k i' : Nat} {q : St × Nat} (h8 : sm (q.1.1 44 i) 8) (hk : k ≤ qc q.1 i) : qc (mvE M i k q).1 i' = if i' = i then qc q.1 i - k else qc q.1 i' := by
  have e40 : ∀ j, (mvE M i k q).1.1 40 j = q.1.1 40 j := fun j => mvE_k (by decide) k
  unfold qc at hk ⊢
  rw [e40]
  by_cases e : i' = i
  · subst e
    rw [if_pos rfl]
    by_cases m : q.1.1 40 i' = 2
    · rw [if_pos m] at hk
      rw [if_pos m, if_pos m, (mvE_q h8 k hk).2]
    · rw [if_neg m, if_neg m, Nat.zero_sub]
  · rw [if_neg e, mvE_o e]
theorem itY_C {S : St} {b B M y y' : Nat} (hy : y ≤ (itI S b).length) (hy' : y' < (itI S b).length) : itC (tkY S b B M y).1 b ((itI S b).getD y' 0) ↔ (tkY S b B M y).1.1 40 ((itI S b).getD y' 0) = 2 := by
  refine ⟨fun z => z.2, fun z => ⟨?_, z⟩⟩
  have := (it_at hy').2
  unfold siP at this ⊢
  rw [tkY_k (by decide) y hy, tkY_k (by decide) y hy]
  exact this
theorem mvK_qc {S : St} {b B M y : Nat} (hy : y < (itI S b).length) : mvK (tkY S b B M y).1 b B ((itI S b).getD y 0) (tkY S b B M y).2 = min (qc (tkY S b B M y).1 ((itI S b).getD y 0)) (B - (tkY S b B M y).2) := by
  unfold mvK qc
  by_cases m : (tkY S b B M y).1.1 40 ((itI S b).getD y 0) = 2
  · rw [if_pos ((itY_C (by omega) hy).mpr m), if_pos m]
  · rw [if_neg (fun z => m z.2), if_neg m, Nat.zero_min]
theorem sumN_upl {f g : Nat → Nat} {i n : Nat} (hi : i < n) (h : ∀ j, j < n → j ≠ i → g j = f j) : sumN g n + f i = sumN f n + g i := by
  have h1 := sumN_upd (f := f) (g := fun j => if j < n then g j else f j) hi (fun j hj => by
    show (if j < n then g j else f j) = f j
    by_cases q : j < n
    · rw [if_pos q]
      exact h j q hj
    · rw [if_neg q])
  have h2 : sumN (fun j => if j < n then g j else f j) n = sumN g n := sumN_cong fun j hj => if_pos hj
  rw [h2, if_pos hi] at h1
  exact h1
theorem itI_nd {S : St} {b : Nat} : (itI S b).Nodup := fl_nd
theorem tkY_E {S : St} {b B M : Nat} (h60 : nn (S.1 32 0) ≤ 60) (h8 : ∀ j, j < 60 → sm (S.1 44 j) 8) : ∀ y, y ≤ (itI S b).length → EnL (itI S b) (tkY S b B M y).1 + (tkY S b B M y).2 = EnL (itI S b) S
  | 0, _ => rfl
  | y + 1, hy => by
    have hy' : y < (itI S b).length := by omega
    have ih := tkY_E (b := b) (B := B) (M := M) h60 h8 y (by omega)
    have hs := tkY_q (b := b) (B := B) (M := M) h8 y (by omega) _ (itI_60 h60 hy')
    have hK := mvK_qc (B := B) (M := M) hy'
    rw [tkY_s hy', tkG_E hs, mvE_n]
    generalize hq : tkY S b B M y = q at *
    have hk : mvK q.1 b B ((itI S b).getD y 0) q.2 ≤ qc q.1 ((itI S b).getD y 0) := by rw [hK]; exact Nat.min_le_left _ _
    generalize mvK q.1 b B ((itI S b).getD y 0) q.2 = k at *
    have hu := sumN_upl (f := fun j => qc q.1 ((itI S b).getD j 0)) (g := fun j => qc (mvE M ((itI S b).getD y 0) k q).1 ((itI S b).getD j 0)) hy' (fun j hl hj => by
      show qc _ _ = qc _ _
      rw [mvE_qc hs hk, if_neg (fun z => hj (nd_at itI_nd hl hy' z))])
    have e1 : qc (mvE M ((itI S b).getD y 0) k q).1 ((itI S b).getD y 0) = qc q.1 ((itI S b).getD y 0) - k := by rw [mvE_qc hs hk, if_pos rfl]
    unfold EnL at ih ⊢
    rw [e1] at hu
    omega
theorem tkY_d {S : St} {b B M : Nat} (h60 : nn (S.1 32 0) ≤ 60) (h8 : ∀ j, j < 60 → sm (S.1 44 j) 8) : ∀ y, y ≤ (itI S b).length → (∀ j, j < y → qc (tkY S b B M y).1 ((itI S b).getD j 0) = 0) ∨ (tkY S b B M y).2 = B
  | 0, _ => Or.inl fun j hj => absurd hj (Nat.not_lt_zero _)
  | y + 1, hy => by
    have hy' : y < (itI S b).length := by omega
    have ih := tkY_d (b := b) (B := B) (M := M) h60 h8 y (by omega)
    have hs := tkY_q (b := b) (B := B) (M := M) h8 y (by omega) _ (itI_60 h60 hy')
    have hK := mvK_qc (B := B) (M := M) hy'
    have hB := tkY_B (S := S) (b := b) (B := B) (M := M) y (by omega)
    rw [tkY_s hy', tkG_E hs, mvE_n]
    generalize hq : tkY S b B M y = q at *
    have hk : mvK q.1 b B ((itI S b).getD y 0) q.2 ≤ qc q.1 ((itI S b).getD y 0) := by rw [hK]; exact Nat.min_le_left _ _
    generalize mvK q.1 b B ((itI S b).getD y 0) q.2 = k at *
    rcases ih with ih | ih
    · rcases Nat.lt_or_ge (q.2 + k) B with z | z
      · refine Or.inl fun j hj => ?_
        rw [mvE_qc hs hk]
        by_cases e : (itI S b).getD j 0 = (itI S b).getD y 0
        · rw [if_pos e]
          omega
        · rw [if_neg e]
          refine ih j ?_
          rcases Nat.lt_or_ge j y with w | w
          · exact w
          · exact absurd (by rw [show j = y by omega]) e
      · exact Or.inr (by omega)
    · exact Or.inr (by omega)
/-- how many the class takes -/
def tkC (S : St) (b B : Nat) : Nat := min (EnL (itI S b) S) B
theorem sumN_0 {f : Nat → Nat} : ∀ {n : Nat}, (∀ j, j < n → f j = 0) → sumN f n = 0
  | 0, _ => rfl
  | n + 1, h => by
    rw [sumN, sumN_0 (fun j hj => h j (by omega)), h n (by omega)]
theorem tkY_c {S : St} {b B M y : Nat} (h60 : nn (S.1 32 0) ≤ 60) (h8 : ∀ j, j < 60 → sm (S.1 44 j) 8) (hy : y ≤ (itI S b).length) : (tkY S b B M y).2 ≤ tkC S b B := by
  have h1 := tkY_E (B := B) (M := M) h60 h8 y hy
  have h2 := tkY_B (S := S) (b := b) (B := B) (M := M) y hy
  unfold tkC
  omega
theorem tkY_all {S : St} {b B M : Nat} (h60 : nn (S.1 32 0) ≤ 60) (h8 : ∀ j, j < 60 → sm (S.1 44 j) 8) : (tkY S b B M (itI S b).length).2 = tkC S b B := by
  have h1 := tkY_E (B := B) (M := M) h60 h8 _ (Nat.le_refl (itI S b).length)
  have h2 := tkY_B (S := S) (b := b) (B := B) (M := M) _ (Nat.le_refl _)
  have h3 := tkY_d (B := B) (M := M) h60 h8 _ (Nat.le_refl (itI S b).length)
  rcases h3 with h3 | h3
  · have : EnL (itI S b) (tkY S b B M (itI S b).length).1 = 0 := sumN_0 h3
    unfold tkC
    omega
  · unfold tkC
    omega
theorem fold_stop {b B M : Nat} {q : St × Nat} : ∀ (L : List Nat), (∀ i ∈ L, sm (q.1.1 44 i) 8 ∧ (B ≤ q.2 ∨ qc q.1 i = 0)) → L.foldl (tkG b B M) q = q
  | [], _ => rfl
  | a :: L, h => by
    obtain ⟨h1, h2⟩ := h a List.mem_cons_self
    have e : tkG b B M q a = q := by
      rw [tkG_E h1]
      have ek : mvK q.1 b B a q.2 = 0 := by
        unfold mvK
        by_cases c : itC q.1 b a
        · rw [if_pos c]
          rcases h2 with h2 | h2
          · omega
          · unfold qc at h2
            rw [if_pos c.2] at h2
            omega
        · exact if_neg c
      rw [ek]
      rfl
    show L.foldl (tkG b B M) (tkG b B M q a) = q
    rw [e]
    exact fold_stop L fun i hi => h i (List.mem_cons_of_mem _ hi)
theorem sumN_z {f : Nat → Nat} {n j : Nat} (h : sumN f n = 0) (hj : j < n) : f j = 0 := by
  have := sumN_le (f := f) hj
  omega
theorem tkY_stop {S : St} {b B M y : Nat} (h60 : nn (S.1 32 0) ≤ 60) (h8 : ∀ j, j < 60 → sm (S.1 44 j) 8) (hy : y ≤ (itI S b).length) (hc : tkC S b B ≤ (tkY S b B M y).2) : tkY S b B M (itI S b).length = tkY S b B M y := by
  have h1 := tkY_E (B := B) (M := M) h60 h8 y hy
  have hq := tkY_q (b := b) (B := B) (M := M) h8 y hy
  have e : tkY S b B M (itI S b).length = ((itI S b).drop y).foldl (tkG b B M) (tkY S b B M y) := by
    unfold tkY
    rw [List.take_length, ← List.foldl_append, List.take_append_drop]
  rw [e]
  refine fold_stop _ fun i hi => ?_
  have hiL : i ∈ itI S b := List.mem_of_mem_drop hi
  obtain ⟨j, hj, ej⟩ := fl_ix hiL
  have ej2 : (itI S b).getD j 0 = i := ej
  refine ⟨hq i (by rw [← ej2]; exact itI_60 h60 hj), ?_⟩
  unfold tkC at hc
  rcases Nat.lt_or_ge (tkY S b B M y).2 B with z | z
  · refine Or.inr ?_
    have h0 : EnL (itI S b) (tkY S b B M y).1 = 0 := by omega
    have := sumN_z h0 hj
    rw [← ej2]
    exact this
  · exact Or.inl z
theorem mvK_sh {S : St} {b B M y : Nat} (h60 : nn (S.1 32 0) ≤ 60) (h8 : ∀ j, j < 60 → sm (S.1 44 j) 8) (hy : y < (itI S b).length) : mvK (tkY S b B M y).1 b B ((itI S b).getD y 0) (tkY S b B M y).2 = if (tkY S b B M y).1.1 40 ((itI S b).getD y 0) = 2 then min (nn ((tkY S b B M y).1.1 44 ((itI S b).getD y 0))) (tkC S b B - (tkY S b B M y).2) else 0 := by
  have h1 := tkY_E (B := B) (M := M) h60 h8 y (Nat.le_of_lt hy)
  have h2 := tkY_B (S := S) (b := b) (B := B) (M := M) y (Nat.le_of_lt hy)
  have h3 := sumN_le (f := fun j => qc (tkY S b B M y).1 ((itI S b).getD j 0)) hy
  rw [mvK_qc hy]
  unfold EnL at h1
  unfold tkC EnL
  unfold qc at h3 ⊢
  by_cases m : (tkY S b B M y).1.1 40 ((itI S b).getD y 0) = 2
  · rw [if_pos m] at h3 ⊢
    rw [if_pos m]
    unfold qc at h1
    omega
  · rw [if_neg m, if_neg m]
    exact Nat.zero_min _
