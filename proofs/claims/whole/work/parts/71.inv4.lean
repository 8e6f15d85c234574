/-! a search's answer belongs to the session -/
def aw (S : St) (s a : Int32) (x : Nat) : Prop := a = -1 ∨ ∃ k, k < x ∧ S.1 17 k = s ∧ a = nI k
theorem aw_up {S : St} {s a : Int32} {x : Nat} (h : aw S s a x) : aw S s a (x + 1) := h.elim Or.inl fun ⟨k, hk, e⟩ => Or.inr ⟨k, by omega, e⟩
theorem lt1_aw {S : St} {s : Int32} : ∀ x, aw S s (lpa (lt1 S s) x (-1)) x
  | 0 => Or.inl rfl
  | x + 1 => by
    have ih := aw_up (lt1_aw (S := S) (s := s) x)
    rw [lpa, lt1]
    split
    · exact ih
    · split
      · rename_i h17
        split
        · exact ih
        · split
          · exact Or.inr ⟨x, by omega, h17, rfl⟩
          · split
            · exact ih
            · exact Or.inr ⟨x, by omega, h17, rfl⟩
      · exact ih
theorem mr1_aw {S : St} {s : Int32} {a : Int32} {N : Nat} (ha : aw S s a N) : ∀ x, x ≤ N → aw S s (lpa (mr1 S s) x a) N
  | 0, _ => ha
  | x + 1, hx => by
    have ih := mr1_aw (S := S) (s := s) ha x (by omega)
    rw [lpa, mr1]
    split
    · exact ih
    · split
      · exact ih
      · split
        · rename_i h17
          split
          · exact ih
          · split
            · exact Or.inr ⟨x, by omega, h17, rfl⟩
            · exact ih
        · exact ih
theorem best_aw {S : St} {s : Int32} : aw S s (bestS S s) (nn (S.1 15 0)) := mr1_aw (lt1_aw _) _ (Nat.le_refl _)
theorem IN.c1 {c c' B : Nat} {S : St} (I : IN c B S) (h : c ≤ c') (h2 : c' ≤ 512) : IN c' B S := by
  obtain ⟨⟨g1, g2, g3, g4, g5, g6, g7⟩, i2⟩ := I
  exact ⟨⟨g1, g2, g3, g4, ⟨Nat.le_trans g5.1 h, h2, g5.2.2⟩, g6, g7⟩, i2⟩
theorem in_publish {c B : Nat} {S : St} {s b n : Int32} (I : IN c B S) (hc : c + 1 ≤ 512) : IN (c + 1) B (op_publish S s b n).1 := by
  have hup : ∀ {T : St}, IN c B T → IN (c + 1) B T := fun h => h.c1 (by omega) hc
  have I1 : IN c B (entS S s) := I.ent
  unfold op_publish
  dsimp only
  split
  · rename_i h0
    have hs := ses_ent h0
    split
    · split
      · exact hup I1.rr
      · rename_i h4
        split
        · exact hup I1.rr
        · have hx := ses_ix hs
          have h12 := (ct_nn I1.2.1.2.2.1 (by decide)).1
          have h4s := (I1.1.2.2.2.1 (nn s) (by omega)).1
          have h3 : nn ((entS S s).1 12 (nn s)) ≤ 3 := by
            rcases Nat.lt_or_ge (nn ((entS S s).1 12 (nn s))) 4 with q | q
            · omega
            · exact absurd (h4s.1.trans (congrArg nI (show nn ((entS S s).1 12 (nn s)) = 4 by have := h4s.2; omega))) h4
          have IA := I1.pubA (b := b) (n := n) hs hc h3
          split
          · rename_i hb0
            rcases best_aw (S := pubA (entS S s) s b n) (s := s) with e | ⟨k, hk, h17, e⟩
            · rw [e] at hb0
              exact absurd hb0 (by decide)
            · have h20 := (ct_nn IA.2.1.2.2.2.1 (by decide)).1
              rw [e, nnI (by omega)]
              refine IA.make hk ?_
              rw [h17]
              have e12 : (pubA (entS S s) s b n).1 12 (nn s) = (ackS (entS S s) s b n).1.1 12 (nn s) + 1 := pa_s _ _
              rw [e12, ackS_k (by decide), (sm_inc h4s (by decide)).2]
              omega
          · exact IA
    · exact hup I1.rr
  · exact hup I1.rr
theorem IN.put33 {c B : Nat} {S : St} {i : Nat} (I : IN c B S) : IN c B (pa S 33 i 0) := by
  obtain ⟨i1, i2, i3, i4, i5, i6, i7, i8, i9, i10, i11, i12, i13⟩ := I
  obtain ⟨z1, z2, z3, z4, z5⟩ := i5
  refine ⟨i1.put rfl, i2.cg, i3.cg, i4.cg, ⟨z1, z2, z3, fun x hx => ⟨?_, (z4 x hx).2⟩, z5⟩, i6.cg rfl rfl rfl, i7.cg rfl rfl rfl rfl, i8.cg rfl rfl, i9.cg, i10.cg rfl rfl rfl rfl, i11.cg rfl rfl rfl, i12.cg rfl rfl rfl, i13⟩
  rw [pa_1]
  split
  · rfl
  · exact (z4 x hx).1
theorem IN.drop {c B : Nat} {S : St} {s i : Int32} (I : IN c B S) : IN c B (op_drop S s i).1 := by
  unfold op_drop
  dsimp only
  split
  · exact I.ent.put33.put rfl
  · exact I.ent.rr
theorem IN.put44 {c B : Nat} {S : St} {i : Nat} (I : IN c B S) : IN c B (pa S 44 i 0) := by
  obtain ⟨i1, i2, i3, i4, i5, i6, i7, i8, i9, i10, i11, i12, i13⟩ := I
  obtain ⟨z1, z2, z3, z4, z5⟩ := i5
  obtain ⟨g1, g2, g3, g4, g5, g6, g7⟩ := i1
  refine ⟨⟨g1, fun x hx => ?_, g3, g4, g5, g6, g7⟩, i2.cg, i3.cg, i4.cg, ⟨z1, z2, z3, fun x hx => ⟨(z4 x hx).1, (z4 x hx).2.1, ?_, (z4 x hx).2.2.2⟩, z5⟩, i6.cg rfl rfl rfl, i7.cg rfl rfl rfl rfl, i8.cg rfl rfl, i9.cg, i10.cg rfl rfl rfl rfl, i11.cg rfl rfl rfl, i12.cg rfl rfl rfl, i13⟩
  · have h := g2 x hx
    refine ⟨?_, h.2.1, ?_, h.2.2.2⟩
    · rw [pa_1]
      split
      · exact ⟨rfl, by decide⟩
      · exact h.1
    · show nn ((pa S 44 i 0).1 44 x) ≤ nn (S.1 38 x)
      rw [pa_1]
      split
      · exact Nat.zero_le _
      · exact h.2.2.1
  · rw [pa_1]
    split
    · rfl
    · exact (z4 x hx).2.2.1
theorem IN.put42 {c B : Nat} {S : St} {i : Nat} (I : IN c B S) : IN c B (pa S 42 i 0) := by
  obtain ⟨i1, i2, i3, i4, i5, i6, i7, i8, i9, i10, i11, i12, i13⟩ := I
  obtain ⟨z1, z2, z3, z4, z5⟩ := i5
  refine ⟨i1.put rfl, i2.cg, i3.cg, i4.cg, ⟨z1, z2, z3, fun x hx => ⟨(z4 x hx).1, ?_, (z4 x hx).2.2⟩, z5⟩, i6.cg rfl rfl rfl, i7.cg rfl rfl rfl rfl, i8.cg rfl rfl, i9.cg, fun x hx => ⟨fun h => ?_, (i10 x hx).2⟩, i11.cg rfl rfl rfl, i12.cg rfl rfl rfl, i13⟩
  · rw [pa_1]
    split
    · rfl
    · exact (z4 x hx).2.1
  · rw [pa_1]
    split
    · rfl
    · exact (i10 x hx).1 h
theorem IN.put40 {c B : Nat} {S : St} {i : Nat} {m : Int32} (I : IN c B S) (hm : sm m 2) (h0 : m = 0 → S.1 42 i = 0) : IN c B (pa S 40 i m) := by
  obtain ⟨i1, i2, i3, i4, i5, i6, i7, i8, i9, i10, i11, i12, i13⟩ := I
  refine ⟨i1.put rfl, i2.cg, i3.cg, i4.cg, i5.cg rfl rfl rfl rfl rfl rfl rfl rfl rfl rfl rfl rfl rfl rfl rfl rfl rfl, i6.cg rfl rfl rfl, i7.cg rfl rfl rfl rfl, i8.cg rfl rfl, i9.cg, fun x hx => ⟨fun h => ?_, ?_, (i10 x hx).2.2⟩, i11.cg rfl rfl rfl, i12.cg rfl rfl rfl, i13⟩
  · rw [pa_1] at h
    show S.1 42 x = 0
    split at h
    · rename_i e
      rw [e.2]
      exact h0 h
    · exact (i10 x hx).1 h
  · rw [pa_1]
    split
    · exact hm
    · exact (i10 x hx).2.1
theorem in_modeS {c B : Nat} {S : St} {i : Nat} {m : Int32} (I : IN c B S) (hi : i < nn (S.1 32 0)) (hm : 0 ≤ m ∧ m ≤ 2) : IN c B (modeS S i m) := by
  have hs := (sm_rng (x := m) (b := 2) hm.1 hm.2 (by decide)).1
  unfold modeS
  dsimp only
  by_cases m0 : m = 0
  · rw [if_pos m0]
    have e : pa (pa (pa (pa S 40 i m) 26 (nn ((pa S 40 i m).1 34 i)) ((pa S 40 i m).1 21 (nn ((pa S 40 i m).1 34 i)))) 44 i 0) 42 i 0 = pa (pa (pa (pa S 44 i 0) 42 i 0) 40 i m) 26 (nn (S.1 34 i)) (S.1 21 (nn (S.1 34 i))) := by
      show pa (pa (pa (pa S 40 i m) 26 (nn (S.1 34 i)) (S.1 21 (nn (S.1 34 i)))) 44 i 0) 42 i 0 = _
      rw [pa_cm (k := 26) (k' := 44) (by decide), pa_cm (k := 40) (k' := 44) (by decide), pa_cm (k := 26) (k' := 42) (by decide), pa_cm (k := 40) (k' := 42) (by decide)]
    rw [e]
    exact (I.put44.put42.put40 hs (fun _ => pa_s _ _)).put rfl
  · rw [if_neg m0]
    have I1 := I.put40 (i := i) hs (fun h => absurd h m0)
    split
    · refine IN.sample ((I1.put rfl).put42) hi ?_
      have e : ∀ {x y}, (pa (pa (pa S 40 i m) 26 x y) 42 i 0).1 40 i = m := by
        intro x y
        rw [pa_n _ _ (by decide), pa_n _ _ (by decide), pa_s]
      rw [e]
      exact m0
    · exact I1.put rfl
theorem IN.mode {c B : Nat} {S : St} {s i m : Int32} (I : IN c B S) : IN c B (op_mode S s i m).1 := by
  unfold op_mode
  dsimp only
  split
  · rename_i h0
    split
    · rename_i hm
      exact in_modeS I.ent (it_ix (lkI_ok h0).2.1.1).2 hm
    · exact I.ent.rr
  · exact I.ent.rr
theorem IN.mail {c B : Nat} {S : St} {a M : Nat} (I : IN c B S) (ha : a < nn (S.1 8 0)) (hM : M < nn (S.1 48 0)) (hc : c + 1 ≤ 512) : IN (c + 1) B (mailN S a M) := by
  obtain ⟨i1, i2, i3, i4, i5, i6, i7, i8, i9, i10, i11, i12, i13⟩ := I
  obtain ⟨z1, z2, z3, z4, z5⟩ := i5
  obtain ⟨⟨c1, c2, c3, c4⟩, g2, g3, g4, g5, g6, g7⟩ := i1
  have h12 := (ct_nn i2.2.2.1 (by decide)).1
  have h48 := (ct_nn c4 (by decide)).1
  have hi := sm_inc (i7 a ha).1 (by decide)
  have hle : nn (S.1 13 a) + 1 ≤ 512 := by
    have := sumN_le (f := fun s => nn (S.1 12 s) + nn (S.1 13 s)) (i := a) (n := 12) (by omega)
    have h5 : tot S ≤ c := g5.1
    unfold tot at h5
    omega
  have e13 : ∀ s, (mailN S a M).1 13 s = if s = a then S.1 13 a + 1 else S.1 13 s := fun s => by simp [mailN, pa_1]
  have e14 : ∀ x, (mailN S a M).1 14 x = if x = 1200 * a + nn (S.1 13 a) then nI M else S.1 14 x := fun x => by simp [mailN, pa_1]
  have e12 : ∀ s, (mailN S a M).1 12 s = S.1 12 s := fun s => rfl
  have et : tot (mailN S a M) = tot S + 1 := by
    have := sumN_upd (f := fun j => nn (S.1 12 j) + nn (S.1 13 j)) (g := fun j => nn ((mailN S a M).1 12 j) + nn ((mailN S a M).1 13 j)) (n := 12) (i := a) (by omega) (fun j hj => by rw [e12, e13, if_neg hj])
    simp only [e12, e13, if_pos, hi.2] at this
    unfold tot
    simp only [e12, e13]
    omega
  have em : ml (mailN S a M) = ml S + 1 := by
    have := sumN_upd (f := fun j => nn (S.1 13 j)) (g := fun j => nn ((mailN S a M).1 13 j)) (n := 12) (i := a) (by omega) (fun j hj => by rw [e13, if_neg hj])
    simp only [e13, if_pos, hi.2] at this
    unfold ml
    simp only [e13]
    omega
  refine ⟨⟨⟨c1, c2, c3, c4⟩, g2, g3, fun s hs => ⟨(g4 s hs).1, ?_⟩, ⟨?_, hc, ?_⟩, g6, g7⟩, i2.cg, i3.cg, i4.cg, ⟨z1, fun x hx => ?_, z3, z4, z5⟩, i6.cg rfl rfl rfl, fun s hs => ?_, i8.cg rfl rfl, i9.cg, i10.cg rfl rfl rfl rfl, i11.cg rfl rfl rfl, i12.cg rfl rfl rfl, i13⟩
  · rw [e13]
    split
    · exact ⟨hi.1.1, by rw [hi.2]; exact hle⟩
    · exact (g4 s hs).2
  · rw [et]
    have := g5.1
    omega
  · rw [em]
    show nn (S.1 48 0) ≤ _
    have := g5.2.2
    omega
  · have hx : nn (S.1 8 0) ≤ x := hx
    rw [e12, e13, if_neg (by omega)]
    exact z2 x hx
  · have hs : s < nn (S.1 8 0) := hs
    have h7 := i7 s hs
    rw [e13]
    by_cases e : s = a
    · subst e
      rw [if_pos rfl]
      refine ⟨⟨hi.1.1, by rw [hi.2]; exact hle⟩, fun j hj => ?_⟩
      rw [hi.2] at hj
      rw [e14]
      split
      · rw [nnI (by omega)]
        exact ⟨⟨by rw [nnI (by omega)], by rw [nnI (by omega)]; omega⟩, hM⟩
      · exact h7.2 j (by omega)
    · rw [if_neg e]
      refine ⟨h7.1, fun j hj => ?_⟩
      rw [e14, if_neg (by have := h7.1.2; omega)]
      exact h7.2 j hj
theorem IN.again {c B : Nat} {S : St} {s b n : Int32} (I : IN c B S) (hc : c + 1 ≤ 512) : IN (c + 1) B (op_again S s b n).1 := by
  have hup : ∀ {T : St}, IN c B T → IN (c + 1) B T := fun h => h.c1 (by omega) hc
  have I1 : IN c B (entS S s) := I.ent
  unfold op_again
  dsimp only
  split
  · rename_i h0
    split
    · rename_i hf
      split
      · obtain ⟨M, hM1, hM2, eM, -⟩ := fkS_nat (ct_up I1.2.1.2.2.2.2.2 (by decide)) hf
        have hs := ses_ix (ses_ent (lkB_ok h0).1)
        have h12 := (ct_nn I1.2.1.2.2.1 (by decide)).1
        have hma := (I1.2.2.2.2.2.2.1 (nn s) hs.2).1
        have em : mailS (entS S s) s (fkS (entS S s) b n) = mailN (entS S s) (nn s) M := by
          have h := (mail_eq (S := entS S s) (a := nn s) (M := M) (by omega) ⟨hma.1, Nat.le_trans hma.2 (by decide)⟩).1
          rw [← hs.1, ← eM] at h
          exact h
        rw [em]
        exact (I1.mail hs.2 hM1 hc).put rfl
      · exact hup I1.rr
    · exact hup I1.rr
  · exact hup I1.rr
theorem IN.cnt15 {c B : Nat} {S : St} (I : IN c B S) (hn : nn (S.1 15 0) < 20) (h19 : 1 ≤ nn (S.1 19 (nn (S.1 15 0))) ∧ sm (S.1 19 (nn (S.1 15 0))) 100) (h17 : sm (S.1 17 (nn (S.1 15 0))) 11 ∧ nn (S.1 17 (nn (S.1 15 0))) < nn (S.1 8 0)) : IN c B (pa S 15 0 (S.1 15 0 + 1)) := by
  obtain ⟨i1, i2, i3, i4, i5, i6, i7, i8, i9, i10, i11, i12, i13⟩ := I
  obtain ⟨z1, z2, z3, z4, z5⟩ := i5
  obtain ⟨⟨c1, c2, c3, c4⟩, g2, g3, g4, g5, g6, g7⟩ := i1
  have hc := ct_inc c2 (by decide)
  have e1 : (pa S 15 0 (S.1 15 0 + 1)).1 15 0 = S.1 15 0 + 1 := pa_s _ _
  have hct : ct (pa S 15 0 (S.1 15 0 + 1)) 15 20 := ⟨nn (S.1 15 0) + 1, by omega, e1.trans hc.2⟩
  refine ⟨⟨⟨c1, hct, c3, c4⟩, g2, g3, g4, g5, fun b hb => ?_, g7⟩, ⟨i2.1, i2.2.1, i2.2.2.1, hct, i2.2.2.2.2⟩, i3.cg, ⟨fun b hb => ?_, fun i hi => ?_⟩, ⟨z1, z2, fun i hi => z3 i ?_, z4, z5⟩, fun m hm => ?_, i7.cg rfl rfl rfl rfl, i8.cg rfl rfl, i9.cg, i10.cg rfl rfl rfl rfl, i11.cg rfl rfl rfl, i12.cg rfl rfl rfl, i13⟩
  · rw [e1, hc.1] at hb
    by_cases e : b = nn (S.1 15 0)
    · rw [e]; exact h19
    · exact g6 b (by omega)
  · rw [e1, hc.1] at hb
    by_cases e : b = nn (S.1 15 0)
    · rw [e]; exact h17
    · exact i4.1 b (by omega)
  · have h := i4.2 i hi
    rw [e1, hc.1]
    exact ⟨h.1, Nat.lt_succ_of_lt h.2.1, h.2.2⟩
  · rw [e1, hc.1] at hi
    omega
  · have h := i6 m hm
    rw [e1, hc.1]
    exact ⟨h.1, Nat.lt_succ_of_lt h.2⟩
theorem IN.subscribe {c B : Nat} {S : St} {s p k l m : Int32} (I : IN c B S) : IN c B (op_subscribe S s p k l m).1 := by
  have I1 : IN c B (entS S s) := I.ent
  unfold op_subscribe
  dsimp only
  split
  · rename_i h0
    have hs := ses_ent h0
    split
    · rename_i hr
      split
      · exact I1.rr
      · rename_i h20
        generalize entS S s = G at *
        have hN := ct_nn I1.2.1.2.2.2.1 (by decide)
        have hN2 : nn (G.1 15 0) < 20 := by
          rcases Nat.lt_or_ge (nn (G.1 15 0)) 20 with q | q
          · exact q
          · exact absurd (hN.2.trans (congrArg nI (show nn (G.1 15 0) = 20 by omega))) h20
        have IT : IN c B (setS (pa (pa (pa (pa G 16 (nn (G.1 15 0)) 1) 17 (nn (G.1 15 0)) s) 23 (nn (G.1 15 0)) 1) 24 (nn (G.1 15 0)) 1) (G.1 15 0) p k l m) := IN.set ((((I1.put rfl).owner hs).put rfl).put rfl) hr
        have e : setS (pa (pa (pa (pa (pa G 15 0 (G.1 15 0 + 1)) 16 (nn (G.1 15 0)) 1) 17 (nn (G.1 15 0)) s) 23 (nn (G.1 15 0)) 1) 24 (nn (G.1 15 0)) 1) (G.1 15 0) p k l m = pa (setS (pa (pa (pa (pa G 16 (nn (G.1 15 0)) 1) 17 (nn (G.1 15 0)) s) 23 (nn (G.1 15 0)) 1) 24 (nn (G.1 15 0)) 1) (G.1 15 0) p k l m) 15 0 (G.1 15 0 + 1) := by
          unfold setS
          show pa (pa (pa (pa (pa (pa (pa _ 18 _ (G.1 0 0)) 19 _ p) 20 _ k) 21 _ l) 22 _ m) 25 _ k) 26 _ l = pa (pa (pa (pa (pa (pa (pa (pa _ 18 _ (G.1 0 0)) 19 _ p) 20 _ k) 21 _ l) 22 _ m) 25 _ k) 26 _ l) 15 0 _
          rw [pa_cm (k := 15) (k' := 16) (by decide), pa_cm (k := 15) (k' := 17) (by decide), pa_cm (k := 15) (k' := 23) (by decide), pa_cm (k := 15) (k' := 24) (by decide), pa_cm (k := 15) (k' := 18) (by decide), pa_cm (k := 15) (k' := 19) (by decide), pa_cm (k := 15) (k' := 20) (by decide), pa_cm (k := 15) (k' := 21) (by decide), pa_cm (k := 15) (k' := 22) (by decide), pa_cm (k := 15) (k' := 25) (by decide), pa_cm (k := 15) (k' := 26) (by decide)]
        rw [e]
        have q15 : (setS (pa (pa (pa (pa G 16 (nn (G.1 15 0)) 1) 17 (nn (G.1 15 0)) s) 23 (nn (G.1 15 0)) 1) 24 (nn (G.1 15 0)) 1) (G.1 15 0) p k l m).1 15 0 = G.1 15 0 := rfl
        have q8 : (setS (pa (pa (pa (pa G 16 (nn (G.1 15 0)) 1) 17 (nn (G.1 15 0)) s) 23 (nn (G.1 15 0)) 1) 24 (nn (G.1 15 0)) 1) (G.1 15 0) p k l m).1 8 0 = G.1 8 0 := rfl
        have q19 : (setS (pa (pa (pa (pa G 16 (nn (G.1 15 0)) 1) 17 (nn (G.1 15 0)) s) 23 (nn (G.1 15 0)) 1) 24 (nn (G.1 15 0)) 1) (G.1 15 0) p k l m).1 19 (nn (G.1 15 0)) = p := by simp [setS, pa_1]
        have q17 : (setS (pa (pa (pa (pa G 16 (nn (G.1 15 0)) 1) 17 (nn (G.1 15 0)) s) 23 (nn (G.1 15 0)) 1) 24 (nn (G.1 15 0)) 1) (G.1 15 0) p k l m).1 17 (nn (G.1 15 0)) = s := by simp [setS, pa_1]
        have hp := sm_rng (x := p) (b := 100) (Int32.le_trans (by decide) hr.1.1) hr.1.2 (by decide)
        have hx := ses_ix hs
        have h12 := (ct_nn I1.2.1.2.2.1 (by decide)).1
        have := IT.cnt15 (by rw [q15]; exact hN2) (by rw [q15, q19]; exact ⟨hp.2 hr.1.1, hp.1⟩) (by rw [q15, q17, q8]; exact ⟨⟨hx.1, by omega⟩, hx.2⟩)
        rw [q15] at this
        exact this
    · exact I1.rr
  · exact I1.rr
theorem in_itS {c B : Nat} {S : St} {b n ev sz od m : Int32} {wd : Int64} (I : IN c B S) (hN : nn (S.1 32 0) < 60) (hb : isSub S b) (hn : isN S n) (hg : goodI ev sz m wd) : IN c B (itS S (nn (S.1 32 0)) b n ev sz od m wd) ∧ (itS S (nn (S.1 32 0)) b n ev sz od m wd).1 40 (nn (S.1 32 0)) = m ∧ (itS S (nn (S.1 32 0)) b n ev sz od m wd).1 32 0 = nI (nn (S.1 32 0) + 1) := by
  have hev := sm_rng (x := ev) (b := 100) (Int32.le_trans (by decide) hg.1.1) hg.1.2 (by decide)
  have hsz := sm_rng (x := sz) (b := 8) (Int32.le_trans (by decide) hg.2.1.1) hg.2.1.2 (by decide)
  have hm := (sm_rng (x := m) (b := 2) hg.2.2.1.1 hg.2.2.1.2 (by decide)).1
  have hb2 := sub_ix hb
  have hn2 := n_ix hn
  have hev1 := hev.2 hg.1.1
  have hsz1 := hsz.2 hg.2.1.1
  have e32 : (itS S (nn (S.1 32 0)) b n ev sz od m wd).1 32 0 = nI (nn (S.1 32 0) + 1) := by simp [itS, pa_1, pb_1]
  have e33 : ∀ i, (itS S (nn (S.1 32 0)) b n ev sz od m wd).1 33 i = if i = nn (S.1 32 0) then 1 else S.1 33 i := fun i => by simp [itS, pa_1, pb_1]
  have e34 : ∀ i, (itS S (nn (S.1 32 0)) b n ev sz od m wd).1 34 i = if i = nn (S.1 32 0) then b else S.1 34 i := fun i => by simp [itS, pa_1, pb_1]
  have e35 : ∀ i, (itS S (nn (S.1 32 0)) b n ev sz od m wd).1 35 i = if i = nn (S.1 32 0) then n else S.1 35 i := fun i => by simp [itS, pa_1, pb_1]
  have e37 : ∀ i, (itS S (nn (S.1 32 0)) b n ev sz od m wd).1 37 i = if i = nn (S.1 32 0) then ev else S.1 37 i := fun i => by simp [itS, pa_1, pb_1]
  have e38 : ∀ i, (itS S (nn (S.1 32 0)) b n ev sz od m wd).1 38 i = if i = nn (S.1 32 0) then sz else S.1 38 i := fun i => by simp [itS, pa_1, pb_1]
  have e40 : ∀ i, (itS S (nn (S.1 32 0)) b n ev sz od m wd).1 40 i = if i = nn (S.1 32 0) then m else S.1 40 i := fun i => by simp [itS, pa_1, pb_1]
  have e41 : ∀ i, (itS S (nn (S.1 32 0)) b n ev sz od m wd).2 41 i = if i = nn (S.1 32 0) then wd else S.2 41 i := fun i => by simp [itS, pa_2, pb_2]
  refine ⟨?_, by rw [e40, if_pos rfl], e32⟩
  obtain ⟨i1, i2, i3, i4, i5, i6, i7, i8, i9, i10, i11, i12, i13⟩ := I
  obtain ⟨z1, z2, z3, z4, z5⟩ := i5
  obtain ⟨⟨c1, c2, c3, c4⟩, g2, g3, g4, g5, g6, g7⟩ := i1
  have h20 := (ct_nn c2 (by decide)).1
  have h40 := (ct_nn i2.1 (by decide)).1
  have hct : ct (itS S (nn (S.1 32 0)) b n ev sz od m wd) 32 60 := ⟨nn (S.1 32 0) + 1, by omega, e32⟩
  have q : nn ((itS S (nn (S.1 32 0)) b n ev sz od m wd).1 32 0) = nn (S.1 32 0) + 1 := by rw [e32, nnI (by omega)]
  refine ⟨⟨⟨c1, c2, hct, c4⟩, fun i hi => ?_, g3, g4, g5, g6, fun i hi => ?_⟩, ⟨i2.1, i2.2.1, i2.2.2.1, i2.2.2.2.1, hct, i2.2.2.2.2.2⟩, i3.cg, ⟨i4.1, fun i hi => ?_⟩, ⟨z1, z2, z3, fun i hi => ?_, z5⟩, i6.cg rfl rfl rfl, i7.cg rfl rfl rfl rfl, i8.cg rfl rfl, i9.cg, fun i hi => ?_, i11.cg rfl rfl rfl, i12.cg rfl rfl rfl, i13⟩
  · have h := g2 i hi
    unfold IvQ
    rw [e34, e35, e38]
    show sm (S.1 44 i) 8 ∧ _ ∧ nn (S.1 44 i) ≤ _ ∧ _
    by_cases e : i = nn (S.1 32 0)
    · rw [if_pos e, if_pos e, if_pos e, (z4 i (by omega)).2.2.1]
      exact ⟨⟨rfl, by decide⟩, hsz.1, Nat.zero_le _, ⟨hn2.1, by omega⟩, ⟨hb2.1, by omega⟩⟩
    · rw [if_neg e, if_neg e, if_neg e]
      exact h
  · rw [q] at hi
    rw [e37, e38]
    by_cases e : i = nn (S.1 32 0)
    · rw [if_pos e, if_pos e]
      exact ⟨hev1, hev.1, hsz1⟩
    · rw [if_neg e, if_neg e]
      exact g7 i (by omega)
  · rw [q] at hi
    rw [e34, e35]
    show sm _ 19 ∧ _ < nn (S.1 15 0) ∧ sm _ 39 ∧ _ < nn (S.1 1 0)
    by_cases e : i = nn (S.1 32 0)
    · rw [if_pos e, if_pos e]
      exact ⟨⟨hb2.1, by omega⟩, hb2.2, ⟨hn2.1, by omega⟩, hn2.2⟩
    · rw [if_neg e, if_neg e]
      exact i4.2 i (by omega)
  · rw [q] at hi
    rw [e33, if_neg (by omega)]
    exact z4 i (by omega)
  · rw [q] at hi
    rw [e40, e41]
    show (_ → S.1 42 i = 0) ∧ _
    by_cases e : i = nn (S.1 32 0)
    · rw [if_pos e, if_pos e]
      exact ⟨fun _ => (z4 i (by omega)).2.1, hm, hg.2.2.2⟩
    · rw [if_neg e, if_neg e]
      exact i10 i (by omega)
theorem IN.item {c B : Nat} {S : St} {s b n ev sz od m : Int32} {wd : Int64} (I : IN c B S) : IN c B (op_item S s b n ev sz od m wd).1 := by
  have I1 : IN c B (entS S s) := I.ent
  unfold op_item
  dsimp only
  split
  · rename_i h0
    split
    · rename_i hv
      split
      · rename_i hg
        split
        · exact I1.rr
        · rename_i h60
          have hN := ct_nn I1.2.1.2.2.2.2.1 (by decide)
          have hN2 : nn ((entS S s).1 32 0) < 60 := by
            rcases Nat.lt_or_ge (nn ((entS S s).1 32 0)) 60 with q | q
            · exact q
            · exact absurd (hN.2.trans (congrArg nI (show nn ((entS S s).1 32 0) = 60 by omega))) h60
          have h := in_itS (od := od) I1 hN2 (lkB_ok h0).2.1.1 hv.1 hg
          split
          · exact h.1
          · rename_i hm0
            refine h.1.sample ?_ ?_
            · rw [h.2.2, nnI (by omega)]
              omega
            · rw [h.2.1]
              exact fun q => hm0 (by rw [q]; decide)
      · exact I1.rr
    · exact I1.rr
  · exact I1.rr
