/-! THE LAW -/
theorem sc_in {n i k : Nat} (h : i + 10 ≤ n) (hn : n ≤ 5120) (hk : k < 10) : vp_in (nI i + nI k) n := by
  rw [nI_add]
  unfold vp_in
  rw [nI_clamp (by omega)]
  rintro (q | q)
  · exact nI_pos (by omega) q
  · omega
theorem sc_in0 {n i : Nat} (h : i + 10 ≤ n) (hn : n ≤ 5120) : vp_in (nI i) n := by
  unfold vp_in
  rw [nI_clamp (by omega)]
  rintro (q | q)
  · exact nI_pos (by omega) q
  · omega
theorem MH.fj {S : St} {J J1 : aH} (h : MH S J) (F : FJ J J1) : MH S J1 := ⟨(F 40 0 0 (by decide)).trans h.1, fun k hk o ho => (F 41 k 0 (by decide)).trans (h.2 k hk o ho)⟩
theorem MH.ovc {S S1 : St} {J : aH} (h : MH S J) : MH S (ovc S1 J) := ⟨(ovc_k (k := 40) rfl).trans h.1, fun k hk o ho => (ovc_k (k := 41) rfl).trans (h.2 k hk o ho)⟩
theorem ovl_ovc {S S1 : St} {J : aH} : ovl S (ovc S1 J) = ovc S1 (ovl S J) := by
  funext α
  by_cases h : ∃ k i, kO k = true ∧ α = kd k i 0
  · obtain ⟨k, i, hk, rfl⟩ := h
    have := kO_c hk
    rw [ovl_k (by omega), ovc_at hk, ovc_at hk]
  · have hn : ∀ k i, kO k = true → α ≠ kd k i 0 := fun k i hk e => h ⟨k, i, hk, e⟩
    rw [ovc_no hn]
    unfold ovl
    rw [ovc_no hn]
theorem RJ.ol {S S1 : St} {Q : Nat → List Nat} {J : aH} (R : RJ S Q J) : RJ S Q (ovl S1 J) := ⟨R.1.J (fun k i g hk => ovl_k (by omega)), R.2.J (fun k i g hk => ovl_k (by omega))⟩
theorem u_mono {S S1 : St} (h : nn (S.1 48 0) ≤ nn (S1.1 48 0)) : uc S ≤ uc S1 + 120 ∧ us S ≤ us S1 + 1560 := by
  have h1 := CL_le (S := S)
  unfold uc us
  omega
theorem IN.ub {c B : Nat} {S : St} (I : IN c B S) : uc S ≤ 2680 ∧ us S ≤ 833048 := by
  have h1 := CL_le (S := S)
  have h2 := (ct_nn I.2.1.2.2.2.2.2 (by decide)).1
  unfold uc us
  omega
/-- between two calls -/
def LI (n : Nat) (f : Nat → Int32) (j : Nat) (S : St) (I : aH) (cells slots : Nat) : Prop := ∃ Q J, I = ovc S J ∧ RJ S Q J ∧ MH S J ∧ J scr = some (.inl (0, aI n f)) ∧ IN j (20000 * j) S ∧ cells ≤ 700 + 140 * j + uc S ∧ slots ≤ 170000 + 3400 * j + us S
theorem LI.next {n : Nat} {f : Nat → Int32} {j : Nat} {S1 : St} {Q1 : Nat → List Nat} {J J1 : aH} {cells slots : Nat} (R1 : RJ S1 Q1 J1) (F1 : FJ J J1) (hs : J scr = some (.inl (0, aI n f))) (I1 : IN (j + 1) (20000 * (j + 1)) S1) (hc : cells ≤ 700 + 140 * (j + 1) + uc S1) (hl : slots ≤ 170000 + 3400 * (j + 1) + us S1) : LI n f (j + 1) S1 (ovl S1 (ovc S1 J1)) cells slots := by
  refine ⟨Q1, ovl S1 J1, ovl_ovc, R1.ol, MH.of _ _, ?_, I1, hc, hl⟩
  exact (ovl_k (k := 0) (by decide)).trans ((F1 0 2 0 (by decide)).trans hs)
theorem up1 {S : St} {j : Nat} (I : IN j (20000 * j) S) (hj : j + 1 ≤ 512) : IN (j + 1) (20000 * (j + 1)) S := (I.up (by omega)).c1 (by omega) hj
theorem LI.nx {n : Nat} {f : Nat → Int32} {j : Nat} {S S1 : St} {Q1 : Nat → List Nat} {J J1 : aH} {cells slots cells' slots' : Nat} (R1 : RJ S1 Q1 J1) (F1 : FJ J J1) (hs : J scr = some (.inl (0, aI n f))) (I1 : IN (j + 1) (20000 * (j + 1)) S1) (e48 : nn (S.1 48 0) ≤ nn (S1.1 48 0)) (hcc : cells ≤ 700 + 140 * j + uc S) (hss : slots ≤ 170000 + 3400 * j + us S) (hca : cells' ≤ cells + 7) (hsl : slots' ≤ slots + 1624) : LI n f (j + 1) S1 (ovl S1 (ovc S1 J1)) cells' slots' := by
  have h := u_mono e48
  exact LI.next R1 F1 hs I1 (by omega) (by omega)
theorem lcmp0 (x : Int64) : lg_cmp x x = 0 := by
  unfold lg_cmp
  simp
def LQ : Option Value → aH → Prop := fun r _ => r = some (.int 1)
theorem tick48 {c B : Nat} {S : St} {n : Int32} (I : IN c B S) (hB : B + 20000 < 2 ^ 31) : uc S ≤ uc (op_tick S n).1 ∧ us S ≤ us (op_tick S n).1 := by
  unfold op_tick
  split
  · rename_i hn
    split
    · have h := (sm_rng (x := n) (b := 1000) (Int32.le_trans (by decide) hn.1) hn.2 (by decide)).1.2
      have := I.mtk (n := 0) (nn n) (by omega)
      rw [Nat.zero_add] at this
      exact this
    · have := u_cg (S := S) (S' := rfw S (-8)) rfl rfl rfl rfl rfl rfl
      exact ⟨Nat.le_of_eq this.1.symm, Nat.le_of_eq this.2.symm⟩
  · have := u_cg (S := S) (S' := rfw S (-7)) rfl rfl rfl rfl rfl rfl
    exact ⟨Nat.le_of_eq this.1.symm, Nat.le_of_eq this.2.symm⟩
theorem smp_48 (S : St) (i : Nat) : (sampleS S i).1 48 0 = S.1 48 0 := sampleS_k (by decide)
theorem m48_node {S : St} {x : Int32} : (op_node S x).1.1 48 0 = S.1 48 0 := by
  unfold op_node
  try dsimp only
  repeat' split
  all_goals first | rfl | exact ent_c (k := 48) (by decide) 0
theorem m48_refer {S : St} {a b t : Int32} : (op_refer S a b t).1.1 48 0 = S.1 48 0 := by
  unfold op_refer
  try dsimp only
  repeat' split
  all_goals first | rfl | exact ent_c (k := 48) (by decide) 0
theorem m48_change {S : St} {n : Int32} {v : Int64} : (op_change S n v).1.1 48 0 = S.1 48 0 := by
  unfold op_change
  try dsimp only
  repeat' split
  all_goals first | rfl | exact ent_c (k := 48) (by decide) 0
theorem m48_session {S : St} {t : Int32} : (op_session S t).1.1 48 0 = S.1 48 0 := by
  unfold op_session
  try dsimp only
  repeat' split
  all_goals first | rfl | exact ent_c (k := 48) (by decide) 0
theorem m48_activate {S : St} {s : Int32} : (op_activate S s).1.1 48 0 = S.1 48 0 := by
  unfold op_activate
  try dsimp only
  repeat' split
  all_goals first | rfl | exact ent_c (k := 48) (by decide) 0
theorem m48_close {S : St} {s : Int32} : (op_close S s).1.1 48 0 = S.1 48 0 := by
  unfold op_close
  try dsimp only
  split
  · exact (shut_k (k := 48) (by decide)).trans (ent_c (k := 48) (by decide) 0)
  · exact ent_c (k := 48) (by decide) 0
theorem m48_browse {S : St} {s n way ty i : Int32} : (op_browse S s n way ty i).1.1 48 0 = S.1 48 0 := by
  unfold op_browse
  try dsimp only
  repeat' split
  all_goals first | rfl | exact ent_c (k := 48) (by decide) 0
theorem m48_read {S : St} {s n : Int32} : (op_read S s n).1.1 48 0 = S.1 48 0 := by
  unfold op_read
  try dsimp only
  repeat' split
  all_goals first | rfl | exact ent_c (k := 48) (by decide) 0
theorem m48_write {S : St} {s n : Int32} {v : Int64} : (op_write S s n v).1.1 48 0 = S.1 48 0 := by
  unfold op_write
  try dsimp only
  repeat' split
  all_goals first | rfl | exact ent_c (k := 48) (by decide) 0
theorem m48_subscribe {S : St} {s p k l m : Int32} : (op_subscribe S s p k l m).1.1 48 0 = S.1 48 0 := by
  unfold op_subscribe
  try dsimp only
  repeat' split
  all_goals first | rfl | exact ent_c (k := 48) (by decide) 0
theorem m48_modify {S : St} {s b p k l m : Int32} : (op_modify S s b p k l m).1.1 48 0 = S.1 48 0 := by
  unfold op_modify
  try dsimp only
  repeat' split
  all_goals first | rfl | exact ent_c (k := 48) (by decide) 0
theorem m48_turn {S : St} {s b on : Int32} : (op_turn S s b on).1.1 48 0 = S.1 48 0 := by
  unfold op_turn
  try dsimp only
  repeat' split
  all_goals first | rfl | exact ent_c (k := 48) (by decide) 0
theorem m48_transfer {S : St} {s b : Int32} : (op_transfer S s b).1.1 48 0 = S.1 48 0 := by
  unfold op_transfer
  try dsimp only
  repeat' split
  all_goals first | rfl | exact ent_c (k := 48) (by decide) 0
theorem m48_unsub {S : St} {s b : Int32} : (op_unsub S s b).1.1 48 0 = S.1 48 0 := by
  unfold op_unsub
  try dsimp only
  split
  · exact (remS_k (k := 48) (by decide) 0).trans (ent_c (k := 48) (by decide) 0)
  · exact ent_c (k := 48) (by decide) 0
theorem m48_item {S : St} {s b n ev sz od m : Int32} {wd : Int64} : (op_item S s b n ev sz od m wd).1.1 48 0 = S.1 48 0 := by
  unfold op_item
  try dsimp only
  split
  · split
    · split
      · split
        · exact ent_c (k := 48) (by decide) 0
        · split
          · exact ent_c (k := 48) (by decide) 0
          · exact (smp_48 _ _).trans (ent_c (k := 48) (by decide) 0)
      · exact ent_c (k := 48) (by decide) 0
    · exact ent_c (k := 48) (by decide) 0
  · exact ent_c (k := 48) (by decide) 0
theorem m48_mode {S : St} {s i m : Int32} : (op_mode S s i m).1.1 48 0 = S.1 48 0 := by
  unfold op_mode
  try dsimp only
  split
  · split
    · unfold modeS
      dsimp only
      split
      · exact ent_c (k := 48) (by decide) 0
      · split
        · exact (smp_48 _ _).trans (ent_c (k := 48) (by decide) 0)
        · exact ent_c (k := 48) (by decide) 0
    · exact ent_c (k := 48) (by decide) 0
  · exact ent_c (k := 48) (by decide) 0
theorem m48_drop {S : St} {s i : Int32} : (op_drop S s i).1.1 48 0 = S.1 48 0 := by
  unfold op_drop
  try dsimp only
  repeat' split
  all_goals first | rfl | exact ent_c (k := 48) (by decide) 0
theorem m48_again {S : St} {s b n : Int32} : (op_again S s b n).1.1 48 0 = S.1 48 0 := by
  unfold op_again
  try dsimp only
  repeat' split
  all_goals first | rfl | exact ent_c (k := 48) (by decide) 0
theorem m48_publish {c B : Nat} {S : St} {s b n : Int32} (I : IN c B S) (hc : c + 1 ≤ 512) : nn (S.1 48 0) ≤ nn ((op_publish S s b n).1.1 48 0) := by
  have I1 : IN c B (entS S s) := I.ent
  have e0 : (entS S s).1 48 0 = S.1 48 0 := ent_c (by decide) 0
  have hr : ∀ x, nn (S.1 48 0) ≤ nn ((rfw (entS S s) x).1 48 0) := fun x => by
    show _ ≤ nn ((entS S s).1 48 0)
    rw [e0]
    exact Nat.le_refl _
  unfold op_publish
  dsimp only
  split
  · rename_i h0
    have hs := ses_ent h0
    split
    · split
      · exact hr _
      · rename_i h4
        split
        · exact hr _
        · have hx := ses_ix hs
          have h12 := (ct_nn I1.2.1.2.2.1 (by decide)).1
          have h4s := (I1.1.2.2.2.1 (nn s) (by omega)).1
          have h3 : nn ((entS S s).1 12 (nn s)) ≤ 3 := by
            rcases Nat.lt_or_ge (nn ((entS S s).1 12 (nn s))) 4 with q | q
            · omega
            · exact absurd (h4s.1.trans (congrArg nI (show nn ((entS S s).1 12 (nn s)) = 4 by have := h4s.2; omega))) h4
          have IA := I1.pubA (b := b) (n := n) hs hc h3
          have eA : (pubA (entS S s) s b n).1 48 0 = S.1 48 0 := by
            have e1 : (pubA (entS S s) s b n).1 48 0 = (ackS (entS S s) s b n).1.1 48 0 := rfl
            rw [e1, ackS_k (by decide), e0]
          split
          · rename_i hb0
            rcases best_aw (S := pubA (entS S s) s b n) (s := s) with e | ⟨k, hk, h17, e⟩
            · rw [e] at hb0
              exact absurd hb0 (by decide)
            · have h20 := (ct_nn IA.2.1.2.2.2.1 (by decide)).1
              rw [e, nnI (by omega)]
              show _ ≤ nn ((makeS (pubA (entS S s) s b n) k).1 48 0)
              rw [IA.make48 hk, eA]
              omega
          · show _ ≤ nn ((pubA (entS S s) s b n).1 48 0)
            rw [eA]
            exact Nat.le_refl _
    · exact hr _
  · exact hr _
