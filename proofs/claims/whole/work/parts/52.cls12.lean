/-! Queue.put, Item.sample -/
theorem smF_at {A : St} {i : Nat} {v : Int64} {b : Int32} : (smF A i v b).2 45 (8 * i + nn (A.1 44 i)) = v ∧ (smF A i v b).1 46 (8 * i + nn (A.1 44 i)) = A.1 0 0 ∧ (smF A i v b).1 47 (8 * i + nn (A.1 44 i)) = b := by
  refine ⟨?_, ?_, ?_⟩
  · rw [smF_2, if_pos ⟨rfl, rfl⟩]
  · rw [smF_1, if_neg (fun q => absurd q.1 (by decide)), if_pos ⟨rfl, rfl⟩]
  · rw [smF_1, if_pos ⟨rfl, rfl⟩]
theorem smF_ne {A : St} {i y : Nat} {v : Int64} {b : Int32} (h : y ≠ nn (A.1 44 i)) : (smF A i v b).2 45 (8 * i + y) = A.2 45 (8 * i + y) ∧ (smF A i v b).1 46 (8 * i + y) = A.1 46 (8 * i + y) ∧ (smF A i v b).1 47 (8 * i + y) = A.1 47 (8 * i + y) := by
  refine ⟨?_, ?_, ?_⟩
  · rw [smF_2, if_neg (by omega)]
  · rw [smF_1, if_neg (by omega), if_neg (by omega), if_neg (by omega)]
  · rw [smF_1, if_neg (by omega), if_neg (by omega), if_neg (by omega)]
theorem smF_44 {A : St} {i : Nat} {v : Int64} {b : Int32} : (smF A i v b).1 44 i = A.1 44 i + 1 := by
  rw [smF_1, if_neg (by omega), if_neg (by omega), if_pos ⟨rfl, rfl⟩]
theorem gd_app {L : List Nat} {n y : Nat} (h : y < L.length) : (L ++ [n]).getD y 0 = L.getD y 0 := by
  rw [List.getD_eq_getElem?_getD, List.getElem?_append_left h, List.getD_eq_getElem?_getD]
theorem getD_new {L : List Nat} {n : Nat} : (L ++ [n]).getD L.length 0 = n := by
  rw [List.getD_eq_getElem?_getD, List.getElem?_append_right (Nat.le_refl _), Nat.sub_self]
  rfl
theorem nd_app {L : List Nat} {n : Nat} (h : L.Nodup) (hn : n ∉ L) : (L ++ [n]).Nodup := by
  rw [List.nodup_append]
  refine ⟨h, by simp, fun a ha b hb e => ?_⟩
  rw [List.mem_singleton] at hb
  exact hn (hb ▸ e ▸ ha)
theorem set_last {n : Nat} : ∀ {L : List Nat}, L ≠ [] → L.set (L.length - 1) n = L.dropLast ++ [n]
  | [], h => absurd rfl h
  | [a], _ => rfl
  | a :: b :: L, _ => by
    show a :: (b :: L).set ((b :: L).length - 1) n = a :: ((b :: L).dropLast ++ [n])
    rw [set_last (by simp)]
theorem gd_set {L : List Nat} {k y n : Nat} (hk : k < L.length) : (L.set k n).getD y 0 = if y = k then n else L.getD y 0 := by
  rw [List.getD_eq_getElem?_getD, List.getElem?_set]
  by_cases e : y = k
  · subst e
    rw [if_pos rfl, if_pos rfl, if_pos hk]
    rfl
  · rw [if_neg (fun q => e q.symm), if_neg e, List.getD_eq_getElem?_getD]
theorem mem_set {L : List Nat} {k n g : Nat} (h : g ∈ L.set k n) : g = n ∨ g ∈ L := (List.mem_or_eq_of_mem_set h).symm
theorem getD_ei {L : List Nat} {y : Nat} : (L.eraseIdx 0).getD y 0 = L.getD (y + 1) 0 := by
  cases L <;> rfl
theorem QK.pos {T : St} {i : Nat} (q : QK T i) (h : T.1 44 i = T.1 38 i) : 1 ≤ nn (T.1 44 i) := by
  have := q.2.2.2
  rw [h]
  exact this
theorem nd_at {L : List Nat} {a b : Nat} (h : L.Nodup) (ha : a < L.length) (hb : b < L.length) (e : L.getD a 0 = L.getD b 0) : a = b := by
  rw [List.getD_eq_getElem?_getD, List.getD_eq_getElem?_getD, List.getElem?_eq_getElem ha, List.getElem?_eq_getElem hb] at e
  have e' : L[a] = L[b] := e
  have hp := List.pairwise_iff_getElem.mp h
  rcases Nat.lt_trichotomy a b with z | z | z
  · exact absurd e' (hp a b ha hb z)
  · exact z
  · exact absurd e'.symm (hp b a hb ha z)
section Put
variable {T : St} {Q : Nat → List Nat} {J J' : aH} {i n : Nat} {v : Int64}
theorem enq_A (q : QK T i) (a : EnQ T Q J i) (hne : ¬ T.1 44 i = T.1 38 i) (he : J' (kd 9 i n) = some (.inr (1, enO v i (T.1 0 0) 0))) (hk : ∀ g ∈ Q i, J' (kd 9 i g) = J (kd 9 i g)) (hm : ∀ g ∈ Q i, g < n) : EnQ (SF T i v) (uQ Q i (Q i ++ [n])) J' i := by
  obtain ⟨a1, a2, a3⟩ := a
  have e : SF T i v = smF T i v 0 := by
    unfold SF smB smBit
    rw [if_neg hne, if_neg hne]
  have h44 : nn ((SF T i v).1 44 i) = nn (T.1 44 i) + 1 := by
    rw [e, smF_44]
    exact (sm_inc q.1 (by decide)).2
  unfold EnQ
  rw [uQ_s, h44]
  refine ⟨nd_app a1 (fun z => Nat.lt_irrefl _ (hm n z)), by rw [List.length_append, a2]; rfl, fun y hy => ?_⟩
  rw [e]
  by_cases z : y = nn (T.1 44 i)
  · obtain ⟨b1, b2, b3⟩ := smF_at (A := T) (i := i) (v := v) (b := 0)
    rw [z, b1, b2, b3, ← a2, getD_new]
    exact he
  · have hy2 : y < nn (T.1 44 i) := by omega
    obtain ⟨b1, b2, b3⟩ := smF_ne (A := T) (i := i) (v := v) (b := 0) z
    rw [b1, b2, b3, gd_app (by omega)]
    exact (hk _ (getD_mem (by omega))).trans (a3 y hy2)
theorem enq_B {A : St} {β : Int32} (q : QK T i) (a : EnQ T Q J i) (e : SF T i v = smF A i v β) (h1 : nn (A.1 44 i) + 1 = nn (T.1 44 i)) (h2 : A.1 44 i + 1 = T.1 44 i) (hA : ∀ y, y < nn (A.1 44 i) → A.2 45 (8 * i + y) = T.2 45 (8 * i + y) ∧ A.1 46 (8 * i + y) = T.1 46 (8 * i + y) ∧ A.1 47 (8 * i + y) = T.1 47 (8 * i + y)) (h0 : A.1 0 0 = T.1 0 0) (he : J' (kd 9 i n) = some (.inr (1, enO v i (T.1 0 0) β))) (hk : ∀ g ∈ Q i, J' (kd 9 i g) = J (kd 9 i g)) (hm : ∀ g ∈ Q i, g < n) : EnQ (SF T i v) (uQ Q i ((Q i).set (nn (T.1 44 i) - 1) n)) J' i := by
  obtain ⟨a1, a2, a3⟩ := a
  have h44 : nn ((SF T i v).1 44 i) = nn (T.1 44 i) := by rw [e, smF_44, h2]
  have hne : Q i ≠ [] := fun z => by
    rw [z] at a2
    have : nn (T.1 44 i) = 0 := a2.symm
    omega
  unfold EnQ
  rw [uQ_s, h44]
  refine ⟨?_, by rw [List.length_set, a2], fun y hy => ?_⟩
  · rw [← a2, set_last hne]
    exact nd_app (a1.sublist (List.dropLast_sublist _)) (fun z => Nat.lt_irrefl _ (hm n (List.dropLast_subset _ z)))
  · rw [gd_set (by omega), e]
    by_cases z : y = nn (A.1 44 i)
    · obtain ⟨b1, b2, b3⟩ := smF_at (A := A) (i := i) (v := v) (b := β)
      rw [if_pos (by omega), z, b1, b2, b3, h0]
      exact he
    · obtain ⟨b1, b2, b3⟩ := smF_ne (A := A) (i := i) (v := v) (b := β) z
      obtain ⟨c1, c2, c3⟩ := hA y (by omega)
      rw [if_neg (by omega), b1, b2, b3, c1, c2, c3]
      exact (hk _ (getD_mem (by omega))).trans (a3 y hy)
theorem enq_C (q : QK T i) (a : EnQ T Q J i) (hf : T.1 44 i = T.1 38 i) (ho : ¬ T.1 39 i = 0) (h2 : 2 ≤ nn (T.1 44 i)) (he : J' (kd 9 i n) = some (.inr (1, enO v i (T.1 0 0) 0))) (hb : J' (kd 9 i ((Q i).getD 1 0)) = some (.inr (1, enO (T.2 45 (8 * i + 1)) i (T.1 46 (8 * i + 1)) 1))) (hk : ∀ g ∈ Q i, g ≠ (Q i).getD 1 0 → J' (kd 9 i g) = J (kd 9 i g)) (hm : ∀ g ∈ Q i, g < n) : EnQ (SF T i v) (uQ Q i ((Q i).eraseIdx 0 ++ [n])) J' i := by
  obtain ⟨a1, a2, a3⟩ := a
  have hd := sm_dec q.1 (by omega) (by decide)
  have h8 := q.1.2
  have e : SF T i v = smF (pa (shiftS T i) 47 (8 * i) 1) i v 0 := by
    unfold SF smB smBit
    rw [if_pos hf, if_pos hf, if_neg ho, if_neg ho]
  have hA : (pa (shiftS T i) 47 (8 * i) 1).1 44 i = T.1 44 i - 1 := shiftS_q
  have hA2 : nn ((pa (shiftS T i) 47 (8 * i) 1).1 44 i) = nn (T.1 44 i) - 1 := by rw [hA, hd.2.2]
  have hA0 : (pa (shiftS T i) 47 (8 * i) 1).1 0 0 = T.1 0 0 := (pa_n _ _ (by decide)).trans (shiftS_k (by decide))
  have h44 : nn ((SF T i v).1 44 i) = nn (T.1 44 i) := by
    rw [e, smF_44, hA, (sm_inc hd.2.1 (by decide)).2, hd.2.2]
    omega
  have hlen : ((Q i).eraseIdx 0).length = nn (T.1 44 i) - 1 := by rw [List.length_eraseIdx, if_pos (by omega), a2]
  have hsub : ∀ g ∈ (Q i).eraseIdx 0, g ∈ Q i := fun g hg => List.mem_of_mem_eraseIdx hg
  unfold EnQ
  rw [uQ_s, h44]
  refine ⟨nd_app (a1.sublist (List.eraseIdx_sublist _ _)) (fun z => Nat.lt_irrefl _ (hm n (hsub n z))), by rw [List.length_append, hlen]; show nn (T.1 44 i) - 1 + 1 = _; omega, fun y hy => ?_⟩
  rw [e]
  by_cases z : y = nn (T.1 44 i) - 1
  · obtain ⟨b1, b2, b3⟩ := smF_at (A := pa (shiftS T i) 47 (8 * i) 1) (i := i) (v := v) (b := 0)
    rw [hA2] at b1 b2 b3
    rw [z, b1, b2, b3, hA0, ← hlen, getD_new]
    exact he
  · obtain ⟨b1, b2, b3⟩ := smF_ne (A := pa (shiftS T i) 47 (8 * i) 1) (i := i) (v := v) (b := 0) (y := y) (by omega)
    have hs1 : (pa (shiftS T i) 47 (8 * i) 1).2 45 (8 * i + y) = T.2 45 (8 * i + (y + 1)) := by
      show (shiftS T i).2 45 (8 * i + y) = _
      unfold shiftS
      dsimp only
      rw [pa_s, hd.2.2]
      exact if_pos (by omega)
    have hs2 : (pa (shiftS T i) 47 (8 * i) 1).1 46 (8 * i + y) = T.1 46 (8 * i + (y + 1)) := by
      rw [pa_n _ _ (by decide)]
      unfold shiftS
      dsimp only
      rw [pa_s, hd.2.2]
      exact if_pos (by omega)
    have hs3 : (pa (shiftS T i) 47 (8 * i) 1).1 47 (8 * i + y) = if y = 0 then 1 else T.1 47 (8 * i + (y + 1)) := by
      by_cases y0 : y = 0
      · subst y0
        rw [if_pos rfl]
        exact pa_s _ _
      · rw [if_neg y0, pa_i _ _ (by omega)]
        unfold shiftS
        dsimp only
        rw [pa_s, hd.2.2]
        exact if_pos (by omega)
    rw [b1, b2, b3, hs1, hs2, hs3, gd_app (by omega), getD_ei]
    by_cases y0 : y = 0
    · subst y0
      rw [if_pos rfl]
      exact hb
    · rw [if_neg y0]
      refine (hk _ (getD_mem (by omega)) (fun z2 => y0 ?_)).trans (a3 (y + 1) (by omega))
      have := nd_at a1 (show y + 1 < (Q i).length by omega) (show 1 < (Q i).length by omega) z2
      omega
theorem EM.en (h : EM T Q J) (hi : i < nn (T.1 32 0)) : ∀ g ∈ Q i, ∃ v t b, J (kd 9 i g) = some (.inr (1, enO v i t b)) := fun g hg => by
  obtain ⟨j, hj, e⟩ := List.getElem_of_mem hg
  obtain ⟨a1, a2, a3⟩ := h.1 i hi
  have := a3 j (by omega)
  rw [List.getD_eq_getElem?_getD, List.getElem?_eq_getElem hj, e] at this
  exact ⟨_, _, _, this⟩
end Put
theorem k_rem (l : Launch) {I : aH} {k i j : Nat} {x : Int32} {L : List Nat} (ex : x = nI j) (hk : k ≠ 0) (hL : LL I k i L) (hn : L.length < 2 ^ 26) (hj : j < L.length) (hel : ∀ a ∈ L, EO I a) : AM l yJx4a65c_remove_915e3 cJx4a65c_remove_915e3 4 (some (.object "java/lang/Object")) (rmm 2 0 0 83) [.ref (kd k i 0), .int x] I (fun r I' => r = some (.ref (L.getD j 0)) ∧ LL I' k i (L.eraseIdx j) ∧ Fr k i I I') := by
  rw [ex]
  exact c_remove l hk hL hn hj hel
theorem k_set (l : Launch) {I : aH} {k i j β : Nat} {x : Int32} {L : List Nat} (ex : x = nI j) (hk : k ≠ 0) (hL : LL I k i L) (hn : L.length < 2 ^ 26) (hj : j < L.length) (hβ : EO I β) : AM l yJx4a65c_set_bcc79 cJx4a65c_set_bcc79 4 (some (.object "java/lang/Object")) (rmm 2 0 0 43) [.ref (kd k i 0), .int x, .ref β] I (fun r I' => r = some (.ref (L.getD j 0)) ∧ LL I' k i (L.set j β) ∧ Fr k i I I') := by
  rw [ex]
  exact c_set l hk hL hn hj hβ
/-- a void method's end, the entries' places new -/
def VQ (S' : St) (J : aH) : Option Value → aH → Prop := fun r I' => r = none ∧ ∃ Q' J', I' = ovc S' J' ∧ RJ S' Q' J' ∧ FJ J J'
theorem q_new {L : List Nat} {i n : Nat} : L.map (fun g => kd 9 i g) ++ [kd 9 i n] = (L ++ [n]).map (fun g => kd 9 i g) := by rw [List.map_append]; rfl
theorem q_set {L : List Nat} {i n k : Nat} : (L.map (fun g => kd 9 i g)).set k (kd 9 i n) = (L.set k n).map (fun g => kd 9 i g) := by rw [List.map_set]
theorem q_ei {L : List Nat} {i n : Nat} : (L.map (fun g => kd 9 i g)).eraseIdx 0 ++ [kd 9 i n] = (L.eraseIdx 0 ++ [n]).map (fun g => kd 9 i g) := by rw [map_ei, q_new]
set_option maxRecDepth 100000 in
set_option maxHeartbeats 4000000 in
theorem k_put (l : Launch) {T : St} {Q : Nat → List Nat} {J : aH} {i n : Nat} {v : Int64} (hi : i < nn (T.1 32 0)) (R : RJ T Q J) (hq8 : ∀ j, j < nn (T.1 32 0) → sm (T.1 44 j) 8) (q : QK T i) (hn : ∀ g, n ≤ g → J (kd 9 i g) = none) (hm : ∀ g ∈ Q i, g < n) : AM l yX4_put cX4_put 2 none (rmm 7 1 22 191) [.ref (kd 7 i 0), .ref (kd 9 i n)] (ovc T (hu J (kd 9 i n) (.inr (1, enO v i (T.1 0 0) 0)))) (VQ (SF T i v) J) := by
  have hen := R.2.1 i hi
  have h28 : LL (hu J (kd 9 i n) (.inr (1, enO v i (T.1 0 0) 0))) 28 i (quL Q i) := (R.que hi).hu (by decide) (by decide) (by decide)
  have hl8 := q.1.2
  have hlen : (quL Q i).length = nn (T.1 44 i) := by rw [quL_len, hen.2.1]
  have hE0 := R.2.en hi
  have hgn : ∀ g ∈ Q i, g ≠ n := fun g hg e => by have := hm g hg; omega
  have hEO : ∀ a ∈ quL Q i, EO (ovc T (hu J (kd 9 i n) (.inr (1, enO v i (T.1 0 0) 0)))) a := fun a ha => by
    obtain ⟨g, hg, rfl⟩ := List.mem_map.mp ha
    obtain ⟨v1, t1, b1, h1⟩ := hE0 g hg
    exact eo_en ((hu_n (kd_ng (hgn g hg))).trans h1)
  have hEn : EO (ovc T (hu J (kd 9 i n) (.inr (1, enO v i (T.1 0 0) 0)))) (kd 9 i n) := eo_en hu_s
  refine AM_of RX4 (by decide) rfl [some (.ref (kd 7 i 0)), some (.ref (kd 9 i n))] rfl (Nat.le_of_ble_eq_true rfl) (fun Z X hNm => ?_)
  refine V_aload_n X dX4_put_0 rfl rfl ?_
  apply V_get X dX4_put_1 fk_X4_10
  · exact at_qu (hi)
  · exact rfl
  apply V_callV0 X dX4_put_4 mk_X4_24 iv_Jx4a65c_size_8abf5 (k_size l (x := T.1 44 i) (h28.ov rfl rfl) (by rw [hlen]; exact q.1.1.symm))
  · exact ll_o (h28.ov rfl rfl)
  · exact rfl
  · exact Nat.le_of_ble_eq_true rfl
  · exact ⟨Nat.le_of_ble_eq_true rfl, Nat.le_of_ble_eq_true rfl⟩
  · exact ⟨by dsimp only [rmm]; omega, by dsimp only [rmm]; omega⟩
  rintro r I1 ⟨rfl, rfl⟩
  refine V_aload_n X dX4_put_7 rfl rfl ?_
  apply V_get X dX4_put_8 fk_X4_16
  · exact at_qu (hi)
  · exact rfl
  refine V_icmp_ge X dX4_put_11 26 (by decide) (fun c_11 => ?_) (fun c_11 => ?_)
  · have heq : T.1 44 i = T.1 38 i := by
      have h1 := q.2.2.1
      have h2 := q.2.1.2
      rw [q.1.1, q.2.1.1] at c_11 ⊢
      have h3 := (nI_leI (by omega) (by omega)).mp c_11
      congr 1
      omega
    have hp := q.pos heq
    have hd := sm_dec q.1 hp (by decide)
    refine V_aload_n X dX4_put_26 rfl rfl ?_
    apply V_get X dX4_put_27 fk_X4_16
    · exact at_qu (hi)
    · exact rfl
    refine V_iconst (v := 1) X dX4_put_30 (by decide) ?_
    refine V_icmp_ne X dX4_put_31 47 (by decide) (fun c_31 => ?_) (fun c_31 => ?_)
    · have h38 : ¬ T.1 38 i ≤ 1 := fun z => by
        have h2 := q.2.1.2
        have e1 := q.2.1.1
        rw [e1] at z
        have h3 := (nI_leI (b := 1) (by omega) (by decide)).mp z
        exact c_31 (by rw [e1, show nn (T.1 38 i) = 1 by have := q.2.2.2; omega]; rfl)
      have h2 : 2 ≤ nn (T.1 44 i) := by
        rw [heq]
        rcases Nat.lt_or_ge (nn (T.1 38 i)) 2 with z | z
        · have := q.2.2.2
          exact absurd (by rw [q.2.1.1, show nn (T.1 38 i) = 1 by omega]; decide) h38
        · exact z
      refine V_aload_n X dX4_put_47 rfl rfl ?_
      apply V_get X dX4_put_48 fk_X4_20
      · exact at_qu (hi)
      · exact rfl
      refine V_if_eq X dX4_put_51 90 (by decide) (fun c_51 => ?_) (fun c_51 => ?_)
      · refine V_aload_n X dX4_put_90 rfl rfl ?_
        refine V_iconst (v := 1) X dX4_put_91 (by decide) ?_
        apply V_put X dX4_put_92 fk_X4_44
        · exact (ovc_k rfl).trans hu_s
        · exact ro_k (by decide)
        · exact Nat.le_of_ble_eq_true rfl
        · exact rfl
        · exact rfl
        rw [hu_ovJ rfl]
        refine V_aload_n X dX4_put_95 rfl rfl ?_
        apply V_get X dX4_put_96 fk_X4_10
        · exact at_qu (hi)
        · exact rfl
        refine V_aload_n X dX4_put_99 rfl rfl ?_
        apply V_get X dX4_put_100 fk_X4_10
        · exact at_qu (hi)
        · exact rfl
        apply V_callV0 X dX4_put_103 mk_X4_24 iv_Jx4a65c_size_8abf5 (k_size l (x := T.1 44 i) ((h28.hu (by decide) (by decide) (by decide)).ov rfl rfl) (by rw [hlen]; exact q.1.1.symm))
        · exact ll_o ((h28.hu (by decide) (by decide) (by decide)).ov rfl rfl)
        · exact rfl
        · exact Nat.le_of_ble_eq_true rfl
        · exact ⟨Nat.le_of_ble_eq_true rfl, Nat.le_of_ble_eq_true rfl⟩
        · exact ⟨by dsimp only [rmm]; omega, by dsimp only [rmm]; omega⟩
        rintro r I1 ⟨rfl, rfl⟩
        refine V_iconst (v := 1) X dX4_put_106 (by decide) ?_
        refine V_isub X dX4_put_107 ?_
        refine V_aload_n X dX4_put_108 rfl rfl ?_
        apply V_callV2 X dX4_put_109 mk_X4_31 iv_Jx4a65c_set_bcc79 (k_set l (j := nn (T.1 44 i) - 1) hd.1 (by decide) ((h28.hu (by decide) (by decide) (by decide)).ov rfl rfl) (by omega) (by omega) (eo_en hu_s))
        · exact ll_o ((h28.hu (by decide) (by decide) (by decide)).ov rfl rfl)
        · exact rfl
        · exact Nat.le_of_ble_eq_true rfl
        · exact ⟨Nat.le_of_ble_eq_true rfl, Nat.le_of_ble_eq_true rfl⟩
        · exact ⟨by dsimp only [rmm]; omega, by dsimp only [rmm]; omega⟩
        rintro r I1 ⟨rfl, hL, hF⟩
        obtain ⟨J1, rfl, hL1, hF1⟩ := LL_ov hF hL rfl rfl
        refine V_pop X dX4_put_112 rfl ?_
        refine V_vret X dX4_put_113 ?_ ?_ ?_
        · dsimp only [rmm]; omega
        · dsimp only [rmm]; omega
        refine ⟨rfl, uQ Q i ((Q i).set (nn (T.1 44 i) - 1) n), _, SF_ovc, R.smp hi hq8 q hn hm (((Sx.hu (Or.inl rfl)).tr (Sx.hu (Or.inl rfl))).tr (Sx.fr hF1)) (by rw [← q_set]; exact hL1) ?_ ?_, Sx.fj (Qi := Q i) (((Sx.hu (Or.inl rfl)).tr (Sx.hu (Or.inl rfl))).tr (Sx.fr hF1))⟩
        · exact fun g hg => mem_set hg
        · exact enq_B (A := pa T 44 i (T.1 44 i - 1)) (β := 1) q hen (by unfold SF smB smBit; rw [if_pos heq, if_pos heq, if_pos c_51, if_pos c_51, if_neg h38]) (by rw [pa_s, hd.2.2]; omega) (by rw [pa_s]; exact Int32.sub_add_cancel _ _) (fun y hy => ⟨rfl, rfl, rfl⟩) rfl ((hF1.k (by decide) (by decide)).trans hu_s) (fun g hg => (hF1.k (by decide) (by decide)).trans ((hu_n (kd_ng (hgn g hg))).trans (hu_n (kd_ng (hgn g hg))))) hm
      refine V_aload_n X dX4_put_54 rfl rfl ?_
      apply V_get X dX4_put_55 fk_X4_10
      · exact at_qu (hi)
      · exact rfl
      refine V_iconst (v := 0) X dX4_put_58 (by decide) ?_
      apply V_callV1 X dX4_put_59 mk_X4_35 iv_Jx4a65c_remove_915e3 (k_rem l (j := 0) rfl (by decide) (h28.ov rfl rfl) (by omega) (by omega) hEO)
      · exact ll_o (h28.ov rfl rfl)
      · exact rfl
      · exact Nat.le_of_ble_eq_true rfl
      · exact ⟨Nat.le_of_ble_eq_true rfl, Nat.le_of_ble_eq_true rfl⟩
      · exact ⟨by dsimp only [rmm]; omega, by dsimp only [rmm]; omega⟩
      rintro r I1 ⟨rfl, hL, hF⟩
      obtain ⟨J1, rfl, hL1, hF1⟩ := LL_ov hF hL rfl rfl
      have hq1 : (Q i).getD 1 0 ∈ Q i := getD_mem (by have := hen.2.1; omega)
      have h1e : J1 (kd 9 i ((Q i).getD 1 0)) = some (.inr (1, enO (T.2 45 (8 * i + 1)) i (T.1 46 (8 * i + 1)) (T.1 47 (8 * i + 1)))) := (hF1.k (by decide) (by decide)).trans ((hu_n (kd_ng (hgn _ hq1))).trans (hen.2.2 1 (by omega)))
      have hle1 : ((quL Q i).eraseIdx 0).length = nn (T.1 44 i) - 1 := by rw [List.length_eraseIdx, if_pos (by omega), hlen]
      refine V_pop X dX4_put_62 rfl ?_
      refine V_aload_n X dX4_put_63 rfl rfl ?_
      apply V_get X dX4_put_64 fk_X4_10
      · exact at_qu (hi)
      · exact rfl
      refine V_iconst (v := 0) X dX4_put_67 (by decide) ?_
      apply V_callV1 X dX4_put_68 mk_X4_39 iv_Jx4a65c_get_915e3 (k_get l (j := 0) (a := kd 9 i ((Q i).getD 1 0)) (hL1.ov rfl rfl) (by rw [hle1]; show 0 < _; omega) rfl (by omega) (by unfold quL; rw [map_ei]; exact (map_at (by rw [List.length_eraseIdx, if_pos (by have := hen.2.1; omega)]; have := hen.2.1; show 0 < _; omega)).trans (by rw [show nn (0 : Int32) = 0 from rfl, getD_ei])))
      · exact ll_o (hL1.ov rfl rfl)
      · exact rfl
      · exact Nat.le_of_ble_eq_true rfl
      · exact ⟨Nat.le_of_ble_eq_true rfl, Nat.le_of_ble_eq_true rfl⟩
      · exact ⟨by dsimp only [rmm]; omega, by dsimp only [rmm]; omega⟩
      rintro r I1 ⟨rfl, rfl⟩
      apply V_cast (ci := 1) X dX4_put_71 cl_X4_42
      · exact rfl
      · exact (ovc_k rfl).trans h1e
      refine V_iconst (v := 1) X dX4_put_74 (by decide) ?_
      apply V_put X dX4_put_75 fk_X4_44
      · exact (ovc_k rfl).trans h1e
      · exact ro_k (by decide)
      · exact Nat.le_of_ble_eq_true rfl
      · exact rfl
      · exact rfl
      rw [hu_ovJ rfl]
      have hEO2 : ∀ a ∈ (quL Q i).eraseIdx 0, EO (ovc T (hu J1 (kd 9 i ((Q i).getD 1 0)) (.inr (1, (enO (T.2 45 (8 * i + 1)) i (T.1 46 (8 * i + 1)) (T.1 47 (8 * i + 1))).set 3 (.int 1))))) a := fun a ha => by
        obtain ⟨g, hg, rfl⟩ := List.mem_map.mp (List.mem_of_mem_eraseIdx ha)
        by_cases z : g = (Q i).getD 1 0
        · rw [z]
          exact eo_en hu_s
        · obtain ⟨v1, t1, b1, h1⟩ := hE0 g hg
          exact eo_en ((hu_n (kd_ng z)).trans ((hF1.k (by decide) (by decide)).trans ((hu_n (kd_ng (hgn g hg))).trans h1)))
      refine V_aload_n X dX4_put_78 rfl rfl ?_
      apply V_get X dX4_put_79 fk_X4_10
      · exact at_qu (hi)
      · exact rfl
      refine V_aload_n X dX4_put_82 rfl rfl ?_
      apply V_callV1 X dX4_put_83 mk_X4_27 iv_Jx4a65c_add_9ea2d (c_add l (by decide) ((hL1.hu (by decide) (by decide) (by decide)).ov rfl rfl) (by omega) hEO2 (eo_en ((hu_n (kd_ng (Ne.symm (hgn _ hq1)))).trans ((hF1.k (by decide) (by decide)).trans hu_s))))
      · exact ll_o ((hL1.hu (by decide) (by decide) (by decide)).ov rfl rfl)
      · exact rfl
      · exact Nat.le_of_ble_eq_true rfl
      · exact ⟨Nat.le_of_ble_eq_true rfl, Nat.le_of_ble_eq_true rfl⟩
      · exact ⟨by dsimp only [rmm]; omega, by dsimp only [rmm]; omega⟩
      rintro r I1 ⟨rfl, hL, hF⟩
      obtain ⟨J2, rfl, hL2, hF2⟩ := LL_ov hF hL rfl rfl
      refine V_pop X dX4_put_86 rfl ?_
      refine V_goto X dX4_put_87 113 (by decide) ?_
      refine V_vret X dX4_put_113 ?_ ?_ ?_
      · dsimp only [rmm]; omega
      · dsimp only [rmm]; omega
      refine ⟨rfl, uQ Q i ((Q i).eraseIdx 0 ++ [n]), _, SF_ovc, R.smp hi hq8 q hn hm ((((Sx.hu (Or.inl rfl)).tr (Sx.fr hF1)).tr (Sx.hu (Or.inr hq1))).tr (Sx.fr hF2)) (by rw [← q_ei]; exact hL2) ?_ ?_, Sx.fj (Qi := Q i) ((((Sx.hu (Or.inl rfl)).tr (Sx.fr hF1)).tr (Sx.hu (Or.inr hq1))).tr (Sx.fr hF2))⟩
      · exact fun g hg => (List.mem_append.mp hg).elim (fun z => Or.inr (List.mem_of_mem_eraseIdx z)) (fun z => Or.inl (List.mem_singleton.mp z))
      · exact enq_C q hen heq c_51 h2 ((hF2.k (by decide) (by decide)).trans ((hu_n (kd_ng (Ne.symm (hgn _ hq1)))).trans ((hF1.k (by decide) (by decide)).trans hu_s))) ((hF2.k (by decide) (by decide)).trans hu_s) (fun g hg hne2 => (hF2.k (by decide) (by decide)).trans ((hu_n (kd_ng hne2)).trans ((hF1.k (by decide) (by decide)).trans (hu_n (kd_ng (hgn g hg)))))) hm
    have h38n : nn (T.1 38 i) = 1 := by rw [c_31]; rfl
    have h44n : nn (T.1 44 i) = 1 := by rw [heq]; exact h38n
    refine V_aload_n X dX4_put_34 rfl rfl ?_
    apply V_get X dX4_put_35 fk_X4_10
    · exact at_qu (hi)
    · exact rfl
    refine V_iconst (v := 0) X dX4_put_38 (by decide) ?_
    refine V_aload_n X dX4_put_39 rfl rfl ?_
    apply V_callV2 X dX4_put_40 mk_X4_31 iv_Jx4a65c_set_bcc79 (k_set l (j := nn (T.1 44 i) - 1) (by rw [h44n]; rfl) (by decide) (h28.ov rfl rfl) (by omega) (by omega) hEn)
    · exact ll_o (h28.ov rfl rfl)
    · exact rfl
    · exact Nat.le_of_ble_eq_true rfl
    · exact ⟨Nat.le_of_ble_eq_true rfl, Nat.le_of_ble_eq_true rfl⟩
    · exact ⟨by dsimp only [rmm]; omega, by dsimp only [rmm]; omega⟩
    rintro r I1 ⟨rfl, hL, hF⟩
    obtain ⟨J1, rfl, hL1, hF1⟩ := LL_ov hF hL rfl rfl
    refine V_pop X dX4_put_43 rfl ?_
    refine V_goto X dX4_put_44 113 (by decide) ?_
    refine V_vret X dX4_put_113 ?_ ?_ ?_
    · dsimp only [rmm]; omega
    · dsimp only [rmm]; omega
    refine ⟨rfl, uQ Q i ((Q i).set (nn (T.1 44 i) - 1) n), _, SF_ovc, R.smp hi hq8 q hn hm ((Sx.hu (Or.inl rfl)).tr (Sx.fr hF1)) (by rw [← q_set]; exact hL1) ?_ ?_, Sx.fj (Qi := Q i) ((Sx.hu (Or.inl rfl)).tr (Sx.fr hF1))⟩
    · exact fun g hg => mem_set hg
    · by_cases ho : T.1 39 i = 0
      · exact enq_B (A := pa T 44 i (T.1 44 i - 1)) (β := 0) q hen (by unfold SF smB smBit; rw [if_pos heq, if_pos heq, if_pos ho, if_pos ho, if_pos (by rw [c_31]; decide)]) (by rw [pa_s, hd.2.2]; omega) (by rw [pa_s]; exact Int32.sub_add_cancel _ _) (fun y hy => ⟨rfl, rfl, rfl⟩) rfl ((hF1.k (by decide) (by decide)).trans hu_s) (fun g hg => (hF1.k (by decide) (by decide)).trans (hu_n (kd_ng (hgn g hg)))) hm
      · refine enq_B (A := pa (shiftS T i) 47 (8 * i) 1) (β := 0) q hen (by unfold SF smB smBit; rw [if_pos heq, if_pos heq, if_neg ho, if_neg ho]) ?_ ?_ (fun y hy => ?_) ((pa_n _ _ (by decide)).trans (shiftS_k (by decide))) ((hF1.k (by decide) (by decide)).trans hu_s) (fun g hg => (hF1.k (by decide) (by decide)).trans (hu_n (kd_ng (hgn g hg)))) hm
        · rw [pa_n _ _ (by decide), shiftS_q, hd.2.2]
          omega
        · rw [pa_n _ _ (by decide), shiftS_q]
          exact Int32.sub_add_cancel _ _
        · rw [pa_n _ _ (by decide), shiftS_q, hd.2.2] at hy
          omega
  have hne : ¬ T.1 44 i = T.1 38 i := fun e => c_11 (by rw [e]; exact (fa_le _ _).mpr (Int.le_refl _))
  have hlt : nn (T.1 44 i) ≤ 7 := by
    have h1 := q.2.2.1
    have h2 := q.2.1.2
    have : nn (T.1 44 i) ≠ nn (T.1 38 i) := fun e => hne (by rw [q.1.1, q.2.1.1, e])
    omega
  refine V_aload_n X dX4_put_14 rfl rfl ?_
  apply V_get X dX4_put_15 fk_X4_10
  · exact at_qu (hi)
  · exact rfl
  refine V_aload_n X dX4_put_18 rfl rfl ?_
  apply V_callV1 X dX4_put_19 mk_X4_27 iv_Jx4a65c_add_9ea2d (c_add l (by decide) (h28.ov rfl rfl) (by omega) hEO hEn)
  · exact ll_o (h28.ov rfl rfl)
  · exact rfl
  · exact Nat.le_of_ble_eq_true rfl
  · exact ⟨Nat.le_of_ble_eq_true rfl, Nat.le_of_ble_eq_true rfl⟩
  · exact ⟨by dsimp only [rmm]; omega, by dsimp only [rmm]; omega⟩
  rintro r I1 ⟨rfl, hL, hF⟩
  obtain ⟨J1, rfl, hL1, hF1⟩ := LL_ov hF hL rfl rfl
  refine V_pop X dX4_put_22 rfl ?_
  refine V_goto X dX4_put_23 113 (by decide) ?_
  refine V_vret X dX4_put_113 ?_ ?_ ?_
  · dsimp only [rmm]; omega
  · dsimp only [rmm]; omega
  refine ⟨rfl, uQ Q i (Q i ++ [n]), _, SF_ovc, R.smp hi hq8 q hn hm ((Sx.hu (Or.inl rfl)).tr (Sx.fr hF1)) (by rw [← q_new]; exact hL1) ?_ ?_, Sx.fj (Qi := Q i) ((Sx.hu (Or.inl rfl)).tr (Sx.fr hF1))⟩
  · exact fun g hg => (List.mem_append.mp hg).elim Or.inr (fun z => Or.inl (List.mem_singleton.mp z))
  · exact enq_A q hen hne ((hF1.k (by decide) (by decide)).trans hu_s) (fun g hg => (hF1.k (by decide) (by decide)).trans (hu_n (kd_ng (hgn g hg)))) hm
