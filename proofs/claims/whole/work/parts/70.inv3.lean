/-! THE INVARIANT OVER EVERY CALL -/
theorem nI_int {b : Nat} (hb : b < 2 ^ 31) : (nI b).toInt = b := by
  have h := i32_nn (nI b) (nI_pos (by omega))
  rw [h]
  show ((nn (nI b) : Nat) : Int) = b
  rw [nnI hb]
theorem sm_rng {x : Int32} {b : Nat} (h0 : 0 ≤ x) (h1 : x ≤ nI b) (hb : b < 2 ^ 31) : sm x b ∧ (1 ≤ x → 1 ≤ nn x) := by
  have h0' : ¬ x < 0 := Int32.not_lt.mpr h0
  have e := i32_nn x h0'
  rw [fa_le, nI_int hb, e] at h1
  have hn : nn x ≤ b := by show x.toNatClampNeg ≤ b; omega
  refine ⟨⟨(fa_eq _ _).mpr ?_, hn⟩, fun h => ?_⟩
  · rw [nI_int (by omega), e]
  · rw [fa_le, e] at h
    have : (1 : Int32).toInt = 1 := rfl
    show 1 ≤ x.toNatClampNeg
    omega
theorem IN.ent {c B : Nat} {S : St} {s : Int32} (I : IN c B S) : IN c B (entS S s) := by
  unfold entS
  split
  · exact I.put rfl
  · exact I
theorem IN.rr {c B : Nat} {S : St} {x : Int32} (I : IN c B S) : IN c B (rfw S x) := I.put rfl
theorem IN.node {c B : Nat} {S : St} {x : Int32} (I : IN c B S) : IN c B (op_node S x).1 := by
  unfold op_node
  split
  · rename_i hx
    split
    · exact I.rr
    · rename_i h40
      obtain ⟨i1, i2, i3, i4, i5, i6, i7, i8, i9, i10, i11, i12, i13⟩ := I
      obtain ⟨z1, z2, z3, z4, z5⟩ := i5
      have hN := ct_nn i2.1 (by decide)
      have hN2 : nn (S.1 1 0) < 40 := by
        rcases Nat.lt_or_ge (nn (S.1 1 0)) 40 with q | q
        · exact q
        · exact absurd (hN.2.trans (congrArg nI (show nn (S.1 1 0) = 40 by omega))) h40
      have hc := ct_inc i2.1 (by decide)
      show IN c B (pa (pa S 2 (nn (S.1 1 0)) x) 1 0 (S.1 1 0 + 1))
      have e1 : (pa (pa S 2 (nn (S.1 1 0)) x) 1 0 (S.1 1 0 + 1)).1 1 0 = S.1 1 0 + 1 := pa_s _ _
      have e2 : ∀ i, (pa (pa S 2 (nn (S.1 1 0)) x) 1 0 (S.1 1 0 + 1)).1 2 i = if i = nn (S.1 1 0) then x else S.1 2 i := fun i => by
        rw [pa_n _ _ (by decide), pa_1]
        simp
      refine ⟨(i1.put rfl).put rfl, ⟨⟨nn (S.1 1 0) + 1, by omega, e1.trans hc.2⟩, i2.2⟩, fun i hi => ?_, ⟨i4.1, fun i hi => ?_⟩, ⟨fun i hi => z1 i ?_, z2, z3, z4, z5⟩, i6.cg rfl rfl rfl, i7.cg rfl rfl rfl rfl, i8.cg rfl rfl, i9.cg, i10.cg rfl rfl rfl rfl, i11.cg rfl rfl rfl, i12.cg rfl rfl rfl, i13⟩
      · rw [e1, hc.1] at hi
        rw [e2]
        split
        · exact (sm_rng (b := 2) hx.1 hx.2 (by decide)).1
        · exact i3 i (by omega)
      · have h := i4.2 i hi
        exact ⟨h.1, h.2.1, h.2.2.1, by rw [e1, hc.1]; exact Nat.lt_succ_of_lt h.2.2.2⟩
      · rw [e1, hc.1] at hi
        omega
  · exact I.rr
theorem IN.refer {c B : Nat} {S : St} {a b t : Int32} (I : IN c B S) : IN c B (op_refer S a b t).1 := by
  unfold op_refer
  split
  · split
    · split
      · rename_i hx
        split
        · exact I.rr
        · rename_i h100
          have I0 : IN c B (pa (pa S 5 (nn (S.1 4 0)) a) 6 (nn (S.1 4 0)) b) := (I.put rfl).put rfl
          show IN c B (pa (pa (pa (pa S 5 (nn (S.1 4 0)) a) 6 (nn (S.1 4 0)) b) 7 (nn (S.1 4 0)) t) 4 0 (S.1 4 0 + 1))
          have e40 : (pa (pa S 5 (nn (S.1 4 0)) a) 6 (nn (S.1 4 0)) b).1 4 0 = S.1 4 0 := rfl
          generalize pa (pa S 5 (nn (S.1 4 0)) a) 6 (nn (S.1 4 0)) b = G at I0 e40 ⊢
          rw [← e40] at h100 ⊢
          obtain ⟨i1, i2, i3, i4, i5, i6, i7, i8, i9, i10, i11, i12, i13⟩ := I0
          have hN := ct_nn i2.2.1 (by decide)
          have hN2 : nn (G.1 4 0) < 100 := by
            rcases Nat.lt_or_ge (nn (G.1 4 0)) 100 with q | q
            · exact q
            · exact absurd (hN.2.trans (congrArg nI (show nn (G.1 4 0) = 100 by omega))) h100
          have hc := ct_inc i2.2.1 (by decide)
          have e1 : (pa (pa G 7 (nn (G.1 4 0)) t) 4 0 (G.1 4 0 + 1)).1 4 0 = G.1 4 0 + 1 := pa_s _ _
          have e2 : ∀ i, (pa (pa G 7 (nn (G.1 4 0)) t) 4 0 (G.1 4 0 + 1)).1 7 i = if i = nn (G.1 4 0) then t else G.1 7 i := fun i => by
            rw [pa_n _ _ (by decide), pa_1]
            simp
          refine ⟨(i1.put rfl).put rfl, ⟨i2.1, ⟨nn (G.1 4 0) + 1, by omega, e1.trans hc.2⟩, i2.2.2⟩, i3.cg, i4.cg, i5.cg rfl rfl rfl rfl rfl rfl rfl rfl rfl rfl rfl rfl rfl rfl rfl rfl rfl, i6.cg rfl rfl rfl, i7.cg rfl rfl rfl rfl, i8.cg rfl rfl, fun r hr => ?_, i10.cg rfl rfl rfl rfl, i11.cg rfl rfl rfl, i12.cg rfl rfl rfl, i13⟩
          rw [e1, hc.1] at hr
          rw [e2]
          split
          · exact (sm_rng (b := 7) hx.1 hx.2 (by decide)).1
          · exact i9 r (by omega)
      · exact I.rr
    · exact I.rr
  · exact I.rr
theorem IN.val {c B : Nat} {S : St} {n : Int32} {v : Int64} (I : IN c B S) (hn : isN S n) : IN c B (pb S 3 (nn n) v) := by
  have hx := (n_ix hn).2
  obtain ⟨i1, i2, i3, i4, i5, i6, i7, i8, i9, i10, i11, i12, i13⟩ := I
  obtain ⟨z1, z2, z3, z4, z5⟩ := i5
  refine ⟨i1.putL, i2.cg, i3.cg, i4.cg, ⟨fun i hi => ?_, z2, z3, z4, z5⟩, i6.cg rfl rfl rfl, i7.cg rfl rfl rfl rfl, i8.cg rfl rfl, i9.cg, i10.cg rfl rfl rfl rfl, i11.cg rfl rfl rfl, i12.cg rfl rfl rfl, i13⟩
  have hi : nn (S.1 1 0) ≤ i := hi
  rw [pb_2, if_neg (by omega)]
  exact z1 i hi
theorem IN.change {c B : Nat} {S : St} {n : Int32} {v : Int64} (I : IN c B S) : IN c B (op_change S n v).1 := by
  unfold op_change
  split
  · rename_i h
    exact I.val h.1
  · exact I.rr
theorem IN.session {c B : Nat} {S : St} {t : Int32} (I : IN c B S) : IN c B (op_session S t).1 := by
  unfold op_session
  split
  · split
    · exact I.rr
    · rename_i h12
      have I0 : IN c B (pa (pa (pa S 9 (nn (S.1 8 0)) t) 10 (nn (S.1 8 0)) (S.1 0 0 + t)) 11 (nn (S.1 8 0)) 0) := ((I.put rfl).put rfl).put rfl
      show IN c B (pa (pa (pa (pa S 9 (nn (S.1 8 0)) t) 10 (nn (S.1 8 0)) (S.1 0 0 + t)) 11 (nn (S.1 8 0)) 0) 8 0 (S.1 8 0 + 1))
      have e80 : (pa (pa (pa S 9 (nn (S.1 8 0)) t) 10 (nn (S.1 8 0)) (S.1 0 0 + t)) 11 (nn (S.1 8 0)) 0).1 8 0 = S.1 8 0 := rfl
      generalize pa (pa (pa S 9 (nn (S.1 8 0)) t) 10 (nn (S.1 8 0)) (S.1 0 0 + t)) 11 (nn (S.1 8 0)) 0 = G at I0 e80 ⊢
      rw [← e80] at h12 ⊢
      obtain ⟨i1, i2, i3, i4, i5, i6, i7, i8, i9, i10, i11, i12, i13⟩ := I0
      obtain ⟨⟨c1, c2, c3, c4⟩, g2, g3, g4, g5, g6, g7⟩ := i1
      obtain ⟨z1, z2, z3, z4, z5⟩ := i5
      have hN := ct_nn i2.2.2.1 (by decide)
      have hN2 : nn (G.1 8 0) < 12 := by
        rcases Nat.lt_or_ge (nn (G.1 8 0)) 12 with q | q
        · exact q
        · exact absurd (hN.2.trans (congrArg nI (show nn (G.1 8 0) = 12 by omega))) h12
      have hc := ct_inc i2.2.2.1 (by decide)
      have e1 : (pa G 8 0 (G.1 8 0 + 1)).1 8 0 = G.1 8 0 + 1 := pa_s _ _
      have hct : ct (pa G 8 0 (G.1 8 0 + 1)) 8 12 := ⟨nn (G.1 8 0) + 1, by omega, e1.trans hc.2⟩
      refine ⟨⟨⟨hct, c2, c3, c4⟩, g2, g3, g4, g5, g6, g7⟩, ⟨i2.1, i2.2.1, hct, i2.2.2.2⟩, i3.cg, ⟨fun b hb => ?_, i4.2⟩, ⟨z1, fun i hi => z2 i ?_, z3, z4, z5⟩, i6.cg rfl rfl rfl, fun s hs => ?_, i8.cg rfl rfl, i9.cg, i10.cg rfl rfl rfl rfl, i11.cg rfl rfl rfl, i12.cg rfl rfl rfl, i13⟩
      · have h := i4.1 b hb
        exact ⟨h.1, by rw [e1, hc.1]; exact Nat.lt_succ_of_lt h.2⟩
      · rw [e1, hc.1] at hi
        omega
      · rw [e1, hc.1] at hs
        by_cases e : s = nn (G.1 8 0)
        · have e13 : G.1 13 s = 0 := (z2 s (by omega)).2
          show sm (G.1 13 s) 512 ∧ ∀ j, j < nn (G.1 13 s) → _
          rw [e13]
          exact ⟨⟨rfl, by decide⟩, fun j hj => absurd hj (Nat.not_lt_zero j)⟩
        · exact i7 s (by omega)
  · exact I.rr
theorem IN.activate {c B : Nat} {S : St} {s : Int32} (I : IN c B S) : IN c B (op_activate S s).1 := by
  unfold op_activate
  split
  · split
    · exact I.rr
    · exact (I.put rfl).put rfl
  · exact I.rr
theorem IN.read {c B : Nat} {S : St} {s n : Int32} (I : IN c B S) : IN c B (op_read S s n).1 := by
  unfold op_read
  dsimp only
  split
  · split
    · exact I.ent.putl (by decide)
    · exact I.ent.rr
  · exact I.ent.rr
theorem IN.write {c B : Nat} {S : St} {s n : Int32} {v : Int64} (I : IN c B S) : IN c B (op_write S s n v).1 := by
  unfold op_write
  dsimp only
  split
  · split
    · rename_i hn
      split
      · exact I.ent.val hn
      · exact I.ent.rr
    · exact I.ent.rr
  · exact I.ent.rr
theorem IN.browse {c B : Nat} {S : St} {s n way ty i : Int32} (I : IN c B S) : IN c B (op_browse S s n way ty i).1 := by
  unfold op_browse
  dsimp only
  split
  · split
    · split
      · split
        · exact I.ent
        · exact I.ent.rr
      · exact I.ent.rr
    · exact I.ent.rr
  · exact I.ent.rr
theorem IN.turn {c B : Nat} {S : St} {s b on : Int32} (I : IN c B S) : IN c B (op_turn S s b on).1 := by
  unfold op_turn
  dsimp only
  split
  · exact (I.ent.put rfl).put rfl
  · exact I.ent.rr
theorem IN.set {c B : Nat} {S : St} {b p k l m : Int32} (I : IN c B S) (hr : areR p k l m) : IN c B (setS S b p k l m) := by
  have hp := sm_rng (x := p) (b := 100) (Int32.le_trans (by decide) hr.1.1) hr.1.2 (by decide)
  have hm := sm_rng (x := m) (b := 10) hr.2.2.2.1 hr.2.2.2.2 (by decide)
  have hp1 := hp.2 hr.1.1
  have I1 : IN c B (pa (pa (pa (pa (pa S 18 (nn b) (S.1 0 0)) 20 (nn b) k) 21 (nn b) l) 25 (nn b) k) 26 (nn b) l) := ((((I.put rfl).put rfl).put rfl).put rfl).put rfl
  have e : setS S b p k l m = pa (pa (pa (pa (pa (pa (pa S 18 (nn b) (S.1 0 0)) 20 (nn b) k) 21 (nn b) l) 25 (nn b) k) 26 (nn b) l) 19 (nn b) p) 22 (nn b) m := by
    unfold setS pa
    simp only [Prod.mk.injEq, and_true]
    funext x y
    repeat' split
    all_goals first | rfl | omega
  rw [e]
  generalize pa (pa (pa (pa (pa S 18 (nn b) (S.1 0 0)) 20 (nn b) k) 21 (nn b) l) 25 (nn b) k) 26 (nn b) l = G at I1 ⊢
  obtain ⟨i1, i2, i3, i4, i5, i6, i7, i8, i9, i10, i11, i12, i13⟩ := I1
  obtain ⟨g1, g2, g3, g4, g5, g6, g7⟩ := i1
  refine ⟨⟨g1, g2, fun x hx => ⟨(g3 x hx).1, ?_⟩, g4, g5, fun x hx => ?_, g7⟩, i2.cg, i3.cg, i4.cg, i5.cg rfl rfl rfl rfl rfl rfl rfl rfl rfl rfl rfl rfl rfl rfl rfl rfl rfl, i6.cg rfl rfl rfl, i7.cg rfl rfl rfl rfl, i8.cg rfl rfl, i9.cg, i10.cg rfl rfl rfl rfl, i11.cg rfl rfl rfl, i12.cg rfl rfl rfl, i13⟩
  · rw [pa_1]
    split
    · exact hm.1
    · exact (g3 x hx).2
  · rw [pa_n _ _ (by decide), pa_1]
    split
    · exact ⟨hp1, hp.1⟩
    · exact g6 x hx
theorem IN.modify {c B : Nat} {S : St} {s b p k l m : Int32} (I : IN c B S) : IN c B (op_modify S s b p k l m).1 := by
  unfold op_modify
  dsimp only
  split
  · split
    · rename_i hr
      exact I.ent.set hr
    · exact I.ent.rr
  · exact I.ent.rr
theorem IN.owner {c B : Nat} {S : St} {b : Nat} {s : Int32} (I : IN c B S) (hs : isSes S s) : IN c B (pa S 17 b s) := by
  have hx := ses_ix hs
  obtain ⟨i1, i2, i3, i4, i5, i6, i7, i8, i9, i10, i11, i12, i13⟩ := I
  have h12 := (ct_nn i2.2.2.1 (by decide)).1
  have hsm : sm s 11 := ⟨hx.1, by omega⟩
  obtain ⟨g1, g2, g3, g4, g5, g6, g7⟩ := i1
  refine ⟨⟨g1, g2, fun x hx => ⟨?_, (g3 x hx).2⟩, g4, g5, g6, g7⟩, i2.cg, i3.cg, ⟨fun x hx => ?_, i4.2⟩, i5.cg rfl rfl rfl rfl rfl rfl rfl rfl rfl rfl rfl rfl rfl rfl rfl rfl rfl, i6.cg rfl rfl rfl, i7.cg rfl rfl rfl rfl, i8.cg rfl rfl, i9.cg, i10.cg rfl rfl rfl rfl, i11.cg rfl rfl rfl, i12.cg rfl rfl rfl, i13⟩
  · rw [pa_1]
    split
    · exact hsm
    · exact (g3 x hx).1
  · rw [pa_1]
    split
    · exact ⟨hsm, by rename_i h _; exact h.2⟩
    · exact i4.1 x hx
theorem ses_ent {S : St} {s : Int32} (h : 0 ≤ lackS S s) : isSes (entS S s) s := by
  have := lack_ses h
  exact ⟨this.1, by rw [ent_c (by decide)]; exact this.2⟩
theorem IN.transfer {c B : Nat} {S : St} {s b : Int32} (I : IN c B S) : IN c B (op_transfer S s b).1 := by
  unfold op_transfer
  dsimp only
  split
  · rename_i h0
    split
    · exact (I.ent.owner (ses_ent h0)).put rfl
    · exact I.ent.rr
  · exact I.ent.rr
theorem IN.close {c B : Nat} {S : St} {s : Int32} (I : IN c B S) : IN c B (op_close S s).1 := by
  unfold op_close
  dsimp only
  split
  · rename_i h0
    exact I.ent.shut (ses_ent h0)
  · exact I.ent.rr
theorem IN.unsub {c B : Nat} {S : St} {s b : Int32} (I : IN c B S) : IN c B (op_unsub S s b).1 := by
  unfold op_unsub
  dsimp only
  split
  · rename_i h0
    have hb := sub_ix (lkB_ok h0).2.1.1
    have h := I.ent (s := s).rem (b := nn b)
    rw [← hb.1] at h
    exact h
  · exact I.ent.rr
theorem IN.tick {c B : Nat} {S : St} {n : Int32} (I : IN c B S) (hB : B + 20000 < 2 ^ 31) : IN c (B + 20000) (op_tick S n).1 := by
  unfold op_tick
  split
  · rename_i hn
    split
    · have h := (sm_rng (x := n) (b := 1000) (Int32.le_trans (by decide) hn.1) hn.2 (by decide)).1.2
      exact (I.tk (nn n) (by omega)).up (by omega)
    · exact I.rr.up (by omega)
  · exact I.rr.up (by omega)
