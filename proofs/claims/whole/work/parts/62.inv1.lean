/-! THE INVARIANT -/
def KP (S : St) : Prop := ∀ b, b < 20 → kpA S (nI b) ≤ 5
def LO (B : Nat) (S : St) : Prop := sm (S.1 30 0) B ∧ ∀ b, b < 20 → (¬ S.1 28 b = 0 → 1 ≤ nn (S.1 29 b)) ∧ sm (S.1 29 b) B
def IN (c B : Nat) (S : St) : Prop := Iv c S ∧ CT S ∧ KD S ∧ OW S ∧ FZ S ∧ MW S ∧ MA S ∧ BT S ∧ RT S ∧ MO S ∧ KP S ∧ LO B S ∧ S.1 70 0 = 0
abbrev inF (k : Nat) : Bool := k == 1 || k == 2 || k == 4 || k == 7 || k == 8 || k == 12 || k == 13 || k == 14 || k == 15 || k == 17 || k == 19 || k == 22 || k == 27 || k == 28 || k == 29 || k == 30 || k == 31 || k == 32 || k == 33 || k == 34 || k == 35 || k == 37 || k == 38 || k == 40 || k == 42 || k == 44 || k == 47 || k == 48 || k == 49 || k == 54 || k == 58 || k == 70
theorem MW.cg {S S' : St} (c : MW S) (a : S'.1 48 0 = S.1 48 0) (b : S'.1 15 0 = S.1 15 0) (d : S'.1 49 = S.1 49) : MW S' := by
  unfold MW at *
  rw [a, b, d]
  exact c
theorem MA.cg {S S' : St} (c : MA S) (a : S'.1 48 0 = S.1 48 0) (b : S'.1 8 0 = S.1 8 0) (d : S'.1 13 = S.1 13) (e : S'.1 14 = S.1 14) : MA S' := by
  unfold MA at *
  rw [a, b, d, e]
  exact c
theorem MO.cg {S S' : St} (c : MO S) (a : S'.1 32 0 = S.1 32 0) (b : S'.1 40 = S.1 40) (d : S'.1 42 = S.1 42) (e : S'.2 41 = S.2 41) : MO S' := by
  unfold MO at *
  rw [a, b, d, e]
  exact c
theorem KP.cg {S S' : St} (c : KP S) (a : S'.1 48 0 = S.1 48 0) (b : S'.1 54 = S.1 54) (d : S'.1 49 = S.1 49) : KP S' := fun x hx => by
  have := c x hx
  unfold kpA at *
  rw [a, kpN_cg b d]
  exact this
theorem LO.cg {B : Nat} {S S' : St} (c : LO B S) (a : S'.1 30 0 = S.1 30 0) (b : S'.1 28 = S.1 28) (d : S'.1 29 = S.1 29) : LO B S' := by
  unfold LO at *
  rw [a, b, d]
  exact c
theorem LO.up {B B' : Nat} {S : St} (c : LO B S) (h : B ≤ B') : LO B' S := ⟨⟨c.1.1, Nat.le_trans c.1.2 h⟩, fun b hb => ⟨(c.2 b hb).1, (c.2 b hb).2.1, Nat.le_trans (c.2 b hb).2.2 h⟩⟩
theorem FZ.cg {S S' : St} (c : FZ S) (a1 : S'.1 1 0 = S.1 1 0) (a3 : S'.1 8 0 = S.1 8 0) (a4 : S'.1 15 0 = S.1 15 0) (a5 : S'.1 32 0 = S.1 32 0) (a6 : S'.1 48 0 = S.1 48 0) (b1 : S'.2 3 = S.2 3) (b2 : S'.1 12 = S.1 12) (b3 : S'.1 13 = S.1 13) (b4 : S'.1 27 = S.1 27) (b5 : S'.1 28 = S.1 28) (b6 : S'.1 29 = S.1 29) (b7 : S'.1 31 = S.1 31) (b8 : S'.1 33 = S.1 33) (b9 : S'.1 42 = S.1 42) (c1 : S'.1 44 = S.1 44) (c2 : S'.2 43 = S.2 43) (c3 : S'.1 54 = S.1 54) : FZ S' := by
  unfold FZ at *
  rw [a1, a3, a4, a5, a6, b1, b2, b3, b4, b5, b6, b7, b8, b9, c1, c2, c3]
  exact c
theorem BT.cg {S S' : St} (c : BT S) (a : S'.1 47 = S.1 47) (b : S'.1 58 = S.1 58) : BT S' := by
  unfold BT at *
  rw [a, b]
  exact c
theorem IN.up {c B B' : Nat} {S : St} (h : IN c B S) (hB : B ≤ B') : IN c B' S := by
  obtain ⟨h1, h2, h3, h4, h5, h6, h7, h8, h9, h10, h11, h12, h13⟩ := h
  exact ⟨h1, h2, h3, h4, h5, h6, h7, h8, h9, h10, h11, h12.up hB, h13⟩
theorem ivF_in {k : Nat} (h : ivF k = true) : inF k = true := by
  simp only [Bool.or_eq_true, beq_iff_eq] at h ⊢
  omega
theorem IN.cong {c B : Nat} {S S' : St} (I : IN c B S) (h : ∀ k, inF k = true → S'.1 k = S.1 k) (h3 : S'.2 3 = S.2 3) (h41 : S'.2 41 = S.2 41) (h43 : S'.2 43 = S.2 43) : IN c B S' := by
  obtain ⟨i1, i2, i3, i4, i5, i6, i7, i8, i9, i10, i11, i12, i13⟩ := I
  have z : ∀ k, inF k = true → S'.1 k 0 = S.1 k 0 := fun k hk => congrFun (h k hk) 0
  exact ⟨i1.cong (fun k hk i => congrFun (h k (ivF_in hk)) i), i2.cg (z 1 rfl) (z 4 rfl) (z 8 rfl) (z 15 rfl) (z 32 rfl) (z 48 rfl), i3.cg (z 1 rfl) (h 2 rfl), i4.cg (z 1 rfl) (z 8 rfl) (z 15 rfl) (z 32 rfl) (h 17 rfl) (h 34 rfl) (h 35 rfl), i5.cg (z 1 rfl) (z 8 rfl) (z 15 rfl) (z 32 rfl) (z 48 rfl) h3 (h 12 rfl) (h 13 rfl) (h 27 rfl) (h 28 rfl) (h 29 rfl) (h 31 rfl) (h 33 rfl) (h 42 rfl) (h 44 rfl) h43 (h 54 rfl), i6.cg (z 48 rfl) (z 15 rfl) (h 49 rfl), i7.cg (z 48 rfl) (z 8 rfl) (h 13 rfl) (h 14 rfl), i8.cg (h 47 rfl) (h 58 rfl), i9.cg (z 4 rfl) (h 7 rfl), i10.cg (z 32 rfl) (h 40 rfl) (h 42 rfl) h41, i11.cg (z 48 rfl) (h 54 rfl) (h 49 rfl), i12.cg (z 30 rfl) (h 28 rfl) (h 29 rfl), (z 70 rfl).trans i13⟩
theorem IN.put {c B : Nat} {S : St} {k i : Nat} {x : Int32} (I : IN c B S) (hk : inF k = false) : IN c B (pa S k i x) := I.cong (fun k' hk' => by
  funext j
  exact pa_n _ _ (fun e => by rw [e, hk] at hk'; cases hk')) rfl rfl rfl
theorem IN.putl {c B : Nat} {S : St} {k i : Nat} {x : Int64} (I : IN c B S) (hk : k ≠ 3 ∧ k ≠ 41 ∧ k ≠ 43) : IN c B (pb S k i x) := I.cong (fun _ _ => rfl) (by funext j; exact if_neg (fun q => hk.1 q.1.symm)) (by funext j; exact if_neg (fun q => hk.2.1 q.1.symm)) (by funext j; exact if_neg (fun q => hk.2.2 q.1.symm))
/-- kept ones, as a list's length -/
theorem kpA_len {S : St} {b : Nat} : kpA S (nI b) = (kpI S b).length := kp_len _
theorem KP.rem {S : St} {b : Nat} (c : KP S) : KP (remS S (nI b)) := fun x hx => by
  rw [kpA_len]
  by_cases e : nI x = nI b
  · unfold kpI
    rw [e]
    show (kpI (remS S (nI b)) b).length ≤ 5
    rw [kpI_rem0]
    exact Nat.zero_le _
  · rw [kpI_rem e, ← kpA_len]
    exact c x hx
theorem IN.rem {c B : Nat} {S : St} {b : Nat} (I : IN c B S) : IN c B (remS S (nI b)) := by
  obtain ⟨i1, i2, i3, i4, i5, i6, i7, i8, i9, i10, i11, i12, i13⟩ := I
  obtain ⟨z1, z2, z3, z4, z5⟩ := i5
  refine ⟨i1.rem, i2.rem, i3.cg (remS_k (by decide) 0) (remS_f (by decide)), i4.rem, ⟨?_, ?_, ?_, ?_, ?_⟩, i6.cg (remS_k (by decide) 0) (remS_k (by decide) 0) (remS_f (by decide)), i7.cg (remS_k (by decide) 0) (remS_k (by decide) 0) (remS_f (by decide)) (remS_f (by decide)), i8.cg (remS_f (by decide)) (remS_f (by decide)), i9.cg (remS_k (by decide) 0) (remS_f (by decide)), i10.cg (remS_k (by decide) 0) (remS_f (by decide)) (remS_f (by decide)) (by rw [remS_2]), i11.rem, i12.cg (remS_k (by decide) 0) (remS_f (by decide)) (remS_f (by decide)), (remS_k (by decide) 0).trans i13⟩
  · rw [remS_k (by decide), remS_2]
    exact z1
  · rw [remS_k (by decide), remS_f (k := 12) (by decide), remS_f (k := 13) (by decide)]
    exact z2
  · rw [remS_k (by decide), remS_f (k := 27) (by decide), remS_f (k := 28) (by decide), remS_f (k := 29) (by decide), remS_f (k := 31) (by decide)]
    exact z3
  · rw [remS_k (by decide), remS_f (k := 42) (by decide), remS_f (k := 44) (by decide), remS_2]
    intro i hi
    refine ⟨?_, (z4 i hi).2⟩
    rw [rem_33, if_neg (by omega)]
    exact (z4 i hi).1
  · rw [remS_k (by decide)]
    intro m hm
    rw [rem_54, if_neg (fun q => absurd q.1 (by omega))]
    exact z5 m hm
theorem IN.late {c B : Nat} {S : St} {b : Nat} (I : IN c B S) (hb : b < nn (S.1 15 0)) (hB : B + 1 < 2 ^ 31) : IN c (B + 1) (lateS S (nI b)) := by
  unfold lateS
  split
  · obtain ⟨i1, i2, i3, i4, i5, i6, i7, i8, i9, i10, i11, i12, i13⟩ := I
    obtain ⟨z1, z2, z3, z4, z5⟩ := i5
    have h20 := (ct_nn i2.2.2.2.1 (by decide)).1
    rw [nnI (by omega)]
    have hi := sm_inc i12.1 hB
    refine ⟨((i1.put rfl).put rfl).put rfl, i2.cg, i3.cg, i4.cg, ⟨z1, z2, ?_, z4, z5⟩, i6.cg rfl rfl rfl, i7.cg rfl rfl rfl rfl, i8.cg rfl rfl, i9.cg, i10.cg rfl rfl rfl rfl, i11.cg rfl rfl rfl, ⟨hi.1, fun x hx => ?_⟩, i13⟩
    · intro i hi2
      have hi2 : nn (S.1 15 0) ≤ i := hi2
      have hne : i ≠ b := by omega
      refine ⟨(z3 i hi2).1, ?_, ?_, (z3 i hi2).2.2.2⟩
      · show (pa (pa (pa S 28 b 1) 30 0 _) 29 b _).1 28 i = 0
        rw [pa_n _ _ (by decide), pa_n _ _ (by decide), pa_i _ _ hne]
        exact (z3 i hi2).2.1
      · show (pa (pa (pa S 28 b 1) 30 0 _) 29 b _).1 29 i = 0
        rw [pa_i _ _ hne]
        exact (z3 i hi2).2.2.1
    · dsimp only
      rw [pa_n _ _ (by decide), pa_n _ _ (by decide)]
      have e30 : (pa (pa S 28 b 1) 30 0 ((pa S 28 b 1).1 30 0 + 1)).1 30 0 = S.1 30 0 + 1 := pa_s _ _
      rw [e30]
      by_cases e : x = b
      · subst e
        rw [pa_s, pa_s]
        exact ⟨fun _ => by rw [hi.2]; omega, hi.1⟩
      · rw [pa_i _ _ e, pa_i _ _ e]
        exact ⟨(i12.2 x hx).1, (i12.2 x hx).2.1, Nat.le_succ_of_le (i12.2 x hx).2.2⟩
  · exact I.up (Nat.le_succ _)
theorem IN.short {c B : Nat} {S : St} {b : Nat} (I : IN c B S) (hb : b < nn (S.1 15 0)) (hB : B + 1 < 2 ^ 31) : IN c (B + 1) (shortS S (nI b)) := by
  have h1 := I.late hb hB
  unfold shortS
  generalize lateS S (nI b) = T at h1 ⊢
  dsimp only
  split
  · exact h1.put (k := 26) rfl
  · exact (h1.put (k := 26) rfl).rem
theorem IN.req0 {c B : Nat} {S : St} {s : Nat} (I : IN c B S) (hs : s < nn (S.1 8 0)) : IN c B (pa S 12 s 0) := by
  obtain ⟨i1, i2, i3, i4, i5, i6, i7, i8, i9, i10, i11, i12, i13⟩ := I
  obtain ⟨z1, z2, z3, z4, z5⟩ := i5
  have h12 := (ct_nn i2.2.2.1 (by decide)).1
  refine ⟨Iv.req0 (by omega) i1, i2.cg, i3.cg, i4.cg, ⟨z1, ?_, z3, z4, z5⟩, i6.cg rfl rfl rfl, i7.cg rfl rfl rfl rfl, i8.cg rfl rfl, i9.cg, i10.cg rfl rfl rfl rfl, i11.cg rfl rfl rfl, i12.cg rfl rfl rfl, i13⟩
  intro i hi
  have hi : nn (S.1 8 0) ≤ i := hi
  rw [pa_i _ _ (by omega), pa_n _ _ (by decide)]
  exact z2 i hi
theorem IN.shut {c B : Nat} {S : St} {s : Int32} (I : IN c B S) (hs : isSes S s) : IN c B (shutS S s).1 := by
  have h1 : IN c B (pa (pa S 11 (nn s) 2) 12 (nn s) 0) := (I.put (k := 11) rfl).req0 (ses_ix hs).2
  unfold shutS
  dsimp only
  generalize nn ((pa (pa S 11 (nn s) 2) 12 (nn s) 0).1 15 0) = n
  generalize pa (pa S 11 (nn s) 2) 12 (nn s) 0 = T at h1 ⊢
  have : ∀ n (q : St × Nat), IN c B q.1 → IN c B (lpq (sh1 s) n q).1 := by
    intro n
    induction n with
    | zero => exact fun q h => h
    | succ n ih =>
      intro q h
      have h2 := ih q h
      rw [lpq]
      generalize lpq (sh1 s) n q = r at h2 ⊢
      unfold sh1
      split
      · exact h2
      · split
        · exact h2.rem
        · exact h2
  exact this n (T, 0) h1
/-- sampling -/
theorem IN.sample {c B : Nat} {S : St} {i : Nat} (I : IN c B S) (hi : i < nn (S.1 32 0)) (hm : ¬ S.1 40 i = 0) : IN c B (sampleS S i) := by
  by_cases hc : smC S i
  · rw [sampleS, if_pos hc]
    exact I
  · obtain ⟨i1, i2, i3, i4, i5, i6, i7, i8, i9, i10, i11, i12, i13⟩ := I
    obtain ⟨z1, z2, z3, z4, z5⟩ := i5
    have h60 := (ct_nn i2.2.2.2.2.1 (by decide)).1
    have iq := i1.2.1 i (by omega)
    have qk : QK (smA S i) i := ⟨iq.1, iq.2.1, iq.2.2.1, (i1.2.2.2.2.2.2 i hi).2.2⟩
    have iS := i1.sample hi (by omega)
    have es : sampleS S i = SF (smA S i) i (smV S i) := by rw [sampleS, if_neg hc]; rfl
    rw [es] at iS ⊢
    have k1 : ∀ k, k ≠ 42 ∧ k ≠ 44 ∧ k ≠ 46 ∧ k ≠ 47 → (SF (smA S i) i (smV S i)).1 k = S.1 k := fun k hk => by
      rw [SF_f hk.2]
      funext j
      exact pa_n S _ hk.1
    have k2 : ∀ k, k ≠ 45 ∧ k ≠ 43 → (SF (smA S i) i (smV S i)).2 k = S.2 k := fun k hk => by
      rw [SF_2f hk.1]
      funext j
      exact if_neg (fun q => hk.2 q.1)
    have z0 : ∀ k, k ≠ 42 ∧ k ≠ 44 ∧ k ≠ 46 ∧ k ≠ 47 → (SF (smA S i) i (smV S i)).1 k 0 = S.1 k 0 := fun k hk => congrFun (k1 k hk) 0
    have e42 : ∀ j, (SF (smA S i) i (smV S i)).1 42 j = (pa S 42 i 1).1 42 j := fun j => SF_k (by decide)
    refine ⟨iS, i2.cg (z0 1 (by decide)) (z0 4 (by decide)) (z0 8 (by decide)) (z0 15 (by decide)) (z0 32 (by decide)) (z0 48 (by decide)), i3.cg (z0 1 (by decide)) (k1 2 (by decide)), i4.cg (z0 1 (by decide)) (z0 8 (by decide)) (z0 15 (by decide)) (z0 32 (by decide)) (k1 17 (by decide)) (k1 34 (by decide)) (k1 35 (by decide)), ⟨?_, ?_, ?_, ?_, ?_⟩, i6.cg (z0 48 (by decide)) (z0 15 (by decide)) (k1 49 (by decide)), i7.cg (z0 48 (by decide)) (z0 8 (by decide)) (k1 13 (by decide)) (k1 14 (by decide)), ⟨?_, ?_⟩, i9.cg (z0 4 (by decide)) (k1 7 (by decide)), ?_, i11.cg (z0 48 (by decide)) (k1 54 (by decide)) (k1 49 (by decide)), i12.cg (z0 30 (by decide)) (k1 28 (by decide)) (k1 29 (by decide)), (z0 70 (by decide)).trans i13⟩
    · rw [z0 1 (by decide), k2 3 (by decide)]
      exact z1
    · rw [z0 8 (by decide), k1 12 (by decide), k1 13 (by decide)]
      exact z2
    · rw [z0 15 (by decide), k1 27 (by decide), k1 28 (by decide), k1 29 (by decide), k1 31 (by decide)]
      exact z3
    · rw [z0 32 (by decide), k1 33 (by decide)]
      intro j hj
      have hne : j ≠ i := by omega
      obtain ⟨a1, a2, a3, a4⟩ := z4 j hj
      refine ⟨a1, ?_, ?_, ?_⟩
      · rw [e42, pa_i _ _ hne]
        exact a2
      · rw [SF_44 hne]
        exact a3
      · rw [SF_2k (by decide)]
        show (if 43 = 43 ∧ j = i then _ else S.2 43 j) = 0
        rw [if_neg (fun q => hne q.2)]
        exact a4
    · rw [z0 48 (by decide), k1 54 (by decide)]
      exact z5
    · intro j
      unfold SF
      rw [smF_1]
      split
      · unfold smBit
        split
        · split
          · split
            · exact Or.inl rfl
            · exact Or.inr rfl
          · exact Or.inl rfl
        · exact Or.inl rfl
      · rw [if_neg (fun q => absurd q.1 (by decide)), if_neg (fun q => absurd q.1 (by decide))]
        unfold smB
        split
        · split
          · exact i8.1 j
          · rw [pa_1]
            split
            · exact Or.inr rfl
            · rw [sh_1 rfl]
              split
              · exact i8.1 _
              · split
                · rename_i q
                  exact absurd q.1 (by decide)
                · exact i8.1 j
        · exact i8.1 j
    · intro e
      rw [k1 58 (by decide)]
      exact i8.2 e
    · intro j hj
      rw [z0 32 (by decide)] at hj
      obtain ⟨a1, a2, a3⟩ := i10 j hj
      rw [k1 40 (by decide), k2 41 (by decide), e42]
      refine ⟨fun h40 => ?_, a2, a3⟩
      by_cases e : j = i
      · rw [e] at h40
        exact absurd h40 hm
      · rw [pa_i _ _ e]
        exact a1 h40
